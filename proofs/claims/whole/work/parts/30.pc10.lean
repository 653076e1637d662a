/-! ===== the methods in pieces, as equations (by wip/gen/emit_eqs2.py) ===== -/
set_option maxRecDepth 20000 in
theorem q_101_2669 (G : Nat × (Nat → Int32)) (d : Nat) (x1 : Int32) (x2 : Int32) (x3 : Int32) (σ : aH) : Lq G d M_101 (14, [some (.ref 13), some (.int x1), some (.int x2), some (.int x3)], [], σ) = some (.inl none, σ) :=
  (aUn_eq (tkd G.1 G.2) tmi (aRun (tkd G.1 G.2) tmi tmt d) M_101 [] 1 (14, [some (.ref 13), some (.int x1), some (.int x2), some (.int x3)], [], σ)).trans rfl
set_option maxRecDepth 20000 in
theorem q_201_2670 (G : Nat × (Nat → Int32)) (d : Nat) (x1 : Int32) (σ : aH) : Lq G d M_201 (0, [some (.ref 33), some (.int x1)], [], σ) = Lq G d M_201 (7, [some (.ref 33), some (.int x1)], [.int x1, .ref 33], (aSI σ 33 0 (0 : Int32))) :=
  (aUn_eq (tkd G.1 G.2) tmi (aRun (tkd G.1 G.2) tmi tmt d) M_201 [] 5 (0, [some (.ref 33), some (.int x1)], [], σ)).trans rfl
set_option maxRecDepth 20000 in
theorem q_201_2671 (G : Nat × (Nat → Int32)) (d : Nat) (x1 : Int32) (s0 : Int32) (σ : aH) : Lq G d M_201 (7, [some (.ref 33), some (.int x1)], [.int s0, .ref 33], σ) = if s0 < 0 then Lq G d M_201 (22, [some (.ref 33), some (.int x1)], [.ref 33], σ) else Lq G d M_201 (10, [some (.ref 33), some (.int x1)], [.ref 33], σ) :=
  (aUn_eq (tkd G.1 G.2) tmi (aRun (tkd G.1 G.2) tmi tmt d) M_201 [] 1 (7, [some (.ref 33), some (.int x1)], [.int s0, .ref 33], σ)).trans rfl
set_option maxRecDepth 20000 in
theorem q_201_2672 (G : Nat × (Nat → Int32)) (d : Nat) (x1 : Int32) (σ : aH) : Lq G d M_201 (22, [some (.ref 33), some (.int x1)], [.ref 33], σ) = Lq G d M_201 (24, [some (.ref 33), some (.int x1)], [.int (1 : Int32), .int (0 : Int32), .ref 33], σ) :=
  (aUn_eq (tkd G.1 G.2) tmi (aRun (tkd G.1 G.2) tmi tmt d) M_201 [] 2 (22, [some (.ref 33), some (.int x1)], [.ref 33], σ)).trans rfl
set_option maxRecDepth 20000 in
theorem q_201_2673 (G : Nat × (Nat → Int32)) (d : Nat) (x1 : Int32) (s0 : Int32) (s1 : Int32) (σ : aH) : Lq G d M_201 (24, [some (.ref 33), some (.int x1)], [.int s0, .int s1, .ref 33], σ) = aCI (Rn G d 62 [.ref 33, .int s1, .int s0] σ) fun v2 σ1 => Lq G d M_201 (27, [some (.ref 33), some (.int x1)], [.int v2], σ1) :=
  (aUn_eq (tkd G.1 G.2) tmi (aRun (tkd G.1 G.2) tmi tmt d) M_201 [] 1 (24, [some (.ref 33), some (.int x1)], [.int s0, .int s1, .ref 33], σ)).trans rfl
set_option maxRecDepth 20000 in
theorem q_201_2674 (G : Nat × (Nat → Int32)) (d : Nat) (x1 : Int32) (s0 : Int32) (σ : aH) : Lq G d M_201 (27, [some (.ref 33), some (.int x1)], [.int s0], σ) = aNar .boolean (s0) (some (.inl (some (.int s0)), σ)) :=
  (aUn_eq (tkd G.1 G.2) tmi (aRun (tkd G.1 G.2) tmi tmt d) M_201 [] 1 (27, [some (.ref 33), some (.int x1)], [.int s0], σ)).trans rfl
set_option maxRecDepth 20000 in
theorem q_201_2675 (G : Nat × (Nat → Int32)) (d : Nat) (x1 : Int32) (σ : aH) : Lq G d M_201 (10, [some (.ref 33), some (.int x1)], [.ref 33], σ) = Lq G d M_201 (15, [some (.ref 33), some (.int x1)], [.int (σ.1 33 12), .int x1, .ref 33], σ) :=
  (aUn_eq (tkd G.1 G.2) tmi (aRun (tkd G.1 G.2) tmi tmt d) M_201 [] 3 (10, [some (.ref 33), some (.int x1)], [.ref 33], σ)).trans rfl
set_option maxRecDepth 20000 in
theorem q_201_2676 (G : Nat × (Nat → Int32)) (d : Nat) (x1 : Int32) (s0 : Int32) (s1 : Int32) (σ : aH) : Lq G d M_201 (15, [some (.ref 33), some (.int x1)], [.int s0, .int s1, .ref 33], σ) = if s0 ≤ s1 then Lq G d M_201 (22, [some (.ref 33), some (.int x1)], [.ref 33], σ) else Lq G d M_201 (18, [some (.ref 33), some (.int x1)], [.ref 33], σ) :=
  (aUn_eq (tkd G.1 G.2) tmi (aRun (tkd G.1 G.2) tmi tmt d) M_201 [] 1 (15, [some (.ref 33), some (.int x1)], [.int s0, .int s1, .ref 33], σ)).trans rfl
set_option maxRecDepth 20000 in
theorem q_201_2677 (G : Nat × (Nat → Int32)) (d : Nat) (x1 : Int32) (σ : aH) : Lq G d M_201 (18, [some (.ref 33), some (.int x1)], [.ref 33], σ) = Lq G d M_201 (24, [some (.ref 33), some (.int x1)], [.int (1 : Int32), .int (1 : Int32), .ref 33], σ) :=
  (aUn_eq (tkd G.1 G.2) tmi (aRun (tkd G.1 G.2) tmi tmt d) M_201 [] 3 (18, [some (.ref 33), some (.int x1)], [.ref 33], σ)).trans rfl
set_option maxRecDepth 20000 in
theorem q_202_2678 (G : Nat × (Nat → Int32)) (d : Nat) (x1 : Int32) (σ : aH) : Lq G d M_202 (0, [some (.ref 33), some (.int x1)], [], σ) = Lq G d M_202 (2, [some (.ref 33), some (.int x1)], [.int x1, .ref 33], σ) :=
  (aUn_eq (tkd G.1 G.2) tmi (aRun (tkd G.1 G.2) tmi tmt d) M_202 [] 2 (0, [some (.ref 33), some (.int x1)], [], σ)).trans rfl
set_option maxRecDepth 20000 in
theorem q_202_2679 (G : Nat × (Nat → Int32)) (d : Nat) (x1 : Int32) (s0 : Int32) (σ : aH) : Lq G d M_202 (2, [some (.ref 33), some (.int x1)], [.int s0, .ref 33], σ) = if s0 < 0 then Lq G d M_202 (13, [some (.ref 33), some (.int x1)], [.ref 33], σ) else Lq G d M_202 (5, [some (.ref 33), some (.int x1)], [.ref 33], σ) :=
  (aUn_eq (tkd G.1 G.2) tmi (aRun (tkd G.1 G.2) tmi tmt d) M_202 [] 1 (2, [some (.ref 33), some (.int x1)], [.int s0, .ref 33], σ)).trans rfl
set_option maxRecDepth 20000 in
theorem q_202_2680 (G : Nat × (Nat → Int32)) (d : Nat) (x1 : Int32) (σ : aH) : Lq G d M_202 (13, [some (.ref 33), some (.int x1)], [.ref 33], σ) = Lq G d M_202 (18, [some (.ref 33), some (.int x1)], [.int (23 : Int32), .int (20 : Int32), .int x1, .ref 33], σ) :=
  (aUn_eq (tkd G.1 G.2) tmi (aRun (tkd G.1 G.2) tmi tmt d) M_202 [] 3 (13, [some (.ref 33), some (.int x1)], [.ref 33], σ)).trans rfl
set_option maxRecDepth 20000 in
theorem q_202_2681 (G : Nat × (Nat → Int32)) (d : Nat) (x1 : Int32) (s0 : Int32) (s1 : Int32) (s2 : Int32) (σ : aH) : Lq G d M_202 (18, [some (.ref 33), some (.int x1)], [.int s0, .int s1, .int s2, .ref 33], σ) = aCI (Rn G d 130 [.int s2, .int s1, .int s0] σ) fun v2 σ1 => Lq G d M_202 (21, [some (.ref 33), some (.int x1)], [.int v2, .ref 33], σ1) :=
  (aUn_eq (tkd G.1 G.2) tmi (aRun (tkd G.1 G.2) tmi tmt d) M_202 [] 1 (18, [some (.ref 33), some (.int x1)], [.int s0, .int s1, .int s2, .ref 33], σ)).trans rfl
set_option maxRecDepth 20000 in
theorem q_202_2682 (G : Nat × (Nat → Int32)) (d : Nat) (x1 : Int32) (s0 : Int32) (σ : aH) : Lq G d M_202 (21, [some (.ref 33), some (.int x1)], [.int s0, .ref 33], σ) = if s0 = 0 then Lq G d M_202 (28, [some (.ref 33), some (.int x1)], [.ref 33], σ) else Lq G d M_202 (24, [some (.ref 33), some (.int x1)], [.ref 33], σ) :=
  (aUn_eq (tkd G.1 G.2) tmi (aRun (tkd G.1 G.2) tmi tmt d) M_202 [] 1 (21, [some (.ref 33), some (.int x1)], [.int s0, .ref 33], σ)).trans rfl
set_option maxRecDepth 20000 in
theorem q_202_2683 (G : Nat × (Nat → Int32)) (d : Nat) (x1 : Int32) (σ : aH) : Lq G d M_202 (28, [some (.ref 33), some (.int x1)], [.ref 33], σ) = Lq G d M_202 (30, [some (.ref 33), some (.int x1)], [.int (1 : Int32), .int (0 : Int32), .ref 33], σ) :=
  (aUn_eq (tkd G.1 G.2) tmi (aRun (tkd G.1 G.2) tmi tmt d) M_202 [] 2 (28, [some (.ref 33), some (.int x1)], [.ref 33], σ)).trans rfl
set_option maxRecDepth 20000 in
theorem q_202_2684 (G : Nat × (Nat → Int32)) (d : Nat) (x1 : Int32) (s0 : Int32) (s1 : Int32) (σ : aH) : Lq G d M_202 (30, [some (.ref 33), some (.int x1)], [.int s0, .int s1, .ref 33], σ) = aCI (Rn G d 62 [.ref 33, .int s1, .int s0] σ) fun v2 σ1 => Lq G d M_202 (33, [some (.ref 33), some (.int x1)], [.int v2], σ1) :=
  (aUn_eq (tkd G.1 G.2) tmi (aRun (tkd G.1 G.2) tmi tmt d) M_202 [] 1 (30, [some (.ref 33), some (.int x1)], [.int s0, .int s1, .ref 33], σ)).trans rfl
set_option maxRecDepth 20000 in
theorem q_202_2685 (G : Nat × (Nat → Int32)) (d : Nat) (x1 : Int32) (s0 : Int32) (σ : aH) : Lq G d M_202 (33, [some (.ref 33), some (.int x1)], [.int s0], σ) = aNar .boolean (s0) (some (.inl (some (.int s0)), σ)) :=
  (aUn_eq (tkd G.1 G.2) tmi (aRun (tkd G.1 G.2) tmi tmt d) M_202 [] 1 (33, [some (.ref 33), some (.int x1)], [.int s0], σ)).trans rfl
set_option maxRecDepth 20000 in
theorem q_202_2686 (G : Nat × (Nat → Int32)) (d : Nat) (x1 : Int32) (σ : aH) : Lq G d M_202 (24, [some (.ref 33), some (.int x1)], [.ref 33], σ) = Lq G d M_202 (30, [some (.ref 33), some (.int x1)], [.int (1 : Int32), .int (1 : Int32), .ref 33], σ) :=
  (aUn_eq (tkd G.1 G.2) tmi (aRun (tkd G.1 G.2) tmi tmt d) M_202 [] 3 (24, [some (.ref 33), some (.int x1)], [.ref 33], σ)).trans rfl
set_option maxRecDepth 20000 in
theorem q_202_2687 (G : Nat × (Nat → Int32)) (d : Nat) (x1 : Int32) (σ : aH) : Lq G d M_202 (5, [some (.ref 33), some (.int x1)], [.ref 33], σ) = Lq G d M_202 (10, [some (.ref 33), some (.int x1)], [.int (σ.1 33 4), .int x1, .ref 33], σ) :=
  (aUn_eq (tkd G.1 G.2) tmi (aRun (tkd G.1 G.2) tmi tmt d) M_202 [] 3 (5, [some (.ref 33), some (.int x1)], [.ref 33], σ)).trans rfl
set_option maxRecDepth 20000 in
theorem q_202_2688 (G : Nat × (Nat → Int32)) (d : Nat) (x1 : Int32) (s0 : Int32) (s1 : Int32) (σ : aH) : Lq G d M_202 (10, [some (.ref 33), some (.int x1)], [.int s0, .int s1, .ref 33], σ) = if s1 < s0 then Lq G d M_202 (24, [some (.ref 33), some (.int x1)], [.ref 33], σ) else Lq G d M_202 (13, [some (.ref 33), some (.int x1)], [.ref 33], σ) :=
  (aUn_eq (tkd G.1 G.2) tmi (aRun (tkd G.1 G.2) tmi tmt d) M_202 [] 1 (10, [some (.ref 33), some (.int x1)], [.int s0, .int s1, .ref 33], σ)).trans rfl
set_option maxRecDepth 20000 in
theorem q_203_2689 (G : Nat × (Nat → Int32)) (d : Nat) (x0 : Int32) (σ : aH) : Lq G d M_203 (0, [some (.int x0)], [], σ) = Lq G d M_203 (3, [some (.int x0)], [.int (20 : Int32), .int x0], σ) :=
  (aUn_eq (tkd G.1 G.2) tmi (aRun (tkd G.1 G.2) tmi tmt d) M_203 [] 2 (0, [some (.int x0)], [], σ)).trans rfl
set_option maxRecDepth 20000 in
theorem q_203_2690 (G : Nat × (Nat → Int32)) (d : Nat) (x0 : Int32) (s0 : Int32) (s1 : Int32) (σ : aH) : Lq G d M_203 (3, [some (.int x0)], [.int s0, .int s1], σ) = if s0 ≤ s1 then Lq G d M_203 (11, [some (.int x0)], [], σ) else Lq G d M_203 (6, [some (.int x0)], [], σ) :=
  (aUn_eq (tkd G.1 G.2) tmi (aRun (tkd G.1 G.2) tmi tmt d) M_203 [] 1 (3, [some (.int x0)], [.int s0, .int s1], σ)).trans rfl
set_option maxRecDepth 20000 in
theorem q_203_2691 (G : Nat × (Nat → Int32)) (d : Nat) (x0 : Int32) (σ : aH) : Lq G d M_203 (11, [some (.int x0)], [], σ) = Lq G d M_203 (14, [some (.int x0)], [.int (20 : Int32), .int x0], σ) :=
  (aUn_eq (tkd G.1 G.2) tmi (aRun (tkd G.1 G.2) tmi tmt d) M_203 [] 2 (11, [some (.int x0)], [], σ)).trans rfl
set_option maxRecDepth 20000 in
theorem q_203_2692 (G : Nat × (Nat → Int32)) (d : Nat) (x0 : Int32) (s0 : Int32) (s1 : Int32) (σ : aH) : Lq G d M_203 (14, [some (.int x0)], [.int s0, .int s1], σ) = if s1 = s0 then Lq G d M_203 (17, [some (.int x0)], [], σ) else Lq G d M_203 (23, [some (.int x0)], [], σ) :=
  (aUn_eq (tkd G.1 G.2) tmi (aRun (tkd G.1 G.2) tmi tmt d) M_203 [] 1 (14, [some (.int x0)], [.int s0, .int s1], σ)).trans rfl
set_option maxRecDepth 20000 in
theorem q_203_2693 (G : Nat × (Nat → Int32)) (d : Nat) (x0 : Int32) (σ : aH) : Lq G d M_203 (17, [some (.int x0)], [], σ) = Lq G d M_203 (35, [some (.int x0)], [.int (-999 : Int32)], σ) :=
  (aUn_eq (tkd G.1 G.2) tmi (aRun (tkd G.1 G.2) tmi tmt d) M_203 [] 2 (17, [some (.int x0)], [], σ)).trans rfl
set_option maxRecDepth 20000 in
theorem q_203_2694 (G : Nat × (Nat → Int32)) (d : Nat) (x0 : Int32) (s0 : Int32) (σ : aH) : Lq G d M_203 (35, [some (.int x0)], [.int s0], σ) = some (.inl (some (.int s0)), σ) :=
  (aUn_eq (tkd G.1 G.2) tmi (aRun (tkd G.1 G.2) tmi tmt d) M_203 [] 1 (35, [some (.int x0)], [.int s0], σ)).trans rfl
set_option maxRecDepth 20000 in
theorem q_203_2695 (G : Nat × (Nat → Int32)) (d : Nat) (x0 : Int32) (σ : aH) : Lq G d M_203 (23, [some (.int x0)], [], σ) = Lq G d M_203 (26, [some (.int x0)], [.int (23 : Int32), .int x0], σ) :=
  (aUn_eq (tkd G.1 G.2) tmi (aRun (tkd G.1 G.2) tmi tmt d) M_203 [] 2 (23, [some (.int x0)], [], σ)).trans rfl
set_option maxRecDepth 20000 in
theorem q_203_2696 (G : Nat × (Nat → Int32)) (d : Nat) (x0 : Int32) (s0 : Int32) (s1 : Int32) (σ : aH) : Lq G d M_203 (26, [some (.int x0)], [.int s0, .int s1], σ) = if s1 = s0 then Lq G d M_203 (29, [some (.int x0)], [], σ) else Lq G d M_203 (34, [some (.int x0)], [], σ) :=
  (aUn_eq (tkd G.1 G.2) tmi (aRun (tkd G.1 G.2) tmi tmt d) M_203 [] 1 (26, [some (.int x0)], [.int s0, .int s1], σ)).trans rfl
set_option maxRecDepth 20000 in
theorem q_203_2697 (G : Nat × (Nat → Int32)) (d : Nat) (x0 : Int32) (σ : aH) : Lq G d M_203 (29, [some (.int x0)], [], σ) = Lq G d M_203 (35, [some (.int x0)], [.int (-50 : Int32)], σ) :=
  (aUn_eq (tkd G.1 G.2) tmi (aRun (tkd G.1 G.2) tmi tmt d) M_203 [] 2 (29, [some (.int x0)], [], σ)).trans rfl
set_option maxRecDepth 20000 in
theorem q_203_2698 (G : Nat × (Nat → Int32)) (d : Nat) (x0 : Int32) (σ : aH) : Lq G d M_203 (34, [some (.int x0)], [], σ) = Lq G d M_203 (35, [some (.int x0)], [.int (0 : Int32)], σ) :=
  (aUn_eq (tkd G.1 G.2) tmi (aRun (tkd G.1 G.2) tmi tmt d) M_203 [] 1 (34, [some (.int x0)], [], σ)).trans rfl
set_option maxRecDepth 20000 in
theorem q_203_2699 (G : Nat × (Nat → Int32)) (d : Nat) (x0 : Int32) (σ : aH) : Lq G d M_203 (6, [some (.int x0)], [], σ) = Lq G d M_203 (35, [some (.int x0)], [.int (-3 : Int32)], σ) :=
  (aUn_eq (tkd G.1 G.2) tmi (aRun (tkd G.1 G.2) tmi tmt d) M_203 [] 2 (6, [some (.int x0)], [], σ)).trans rfl
set_option maxRecDepth 20000 in
theorem q_204_2700 (G : Nat × (Nat → Int32)) (d : Nat) (x0 : Int32) (σ : aH) : Lq G d M_204 (0, [some (.int x0)], [], σ) = Lq G d M_204 (3, [some (.int x0)], [.int (20 : Int32), .int x0], σ) :=
  (aUn_eq (tkd G.1 G.2) tmi (aRun (tkd G.1 G.2) tmi tmt d) M_204 [] 2 (0, [some (.int x0)], [], σ)).trans rfl
set_option maxRecDepth 20000 in
theorem q_204_2701 (G : Nat × (Nat → Int32)) (d : Nat) (x0 : Int32) (s0 : Int32) (s1 : Int32) (σ : aH) : Lq G d M_204 (3, [some (.int x0)], [.int s0, .int s1], σ) = if s0 ≤ s1 then Lq G d M_204 (10, [some (.int x0)], [], σ) else Lq G d M_204 (6, [some (.int x0)], [], σ) :=
  (aUn_eq (tkd G.1 G.2) tmi (aRun (tkd G.1 G.2) tmi tmt d) M_204 [] 1 (3, [some (.int x0)], [.int s0, .int s1], σ)).trans rfl
set_option maxRecDepth 20000 in
theorem q_204_2702 (G : Nat × (Nat → Int32)) (d : Nat) (x0 : Int32) (σ : aH) : Lq G d M_204 (10, [some (.int x0)], [], σ) = Lq G d M_204 (13, [some (.int x0)], [.int (20 : Int32), .int x0], σ) :=
  (aUn_eq (tkd G.1 G.2) tmi (aRun (tkd G.1 G.2) tmi tmt d) M_204 [] 2 (10, [some (.int x0)], [], σ)).trans rfl
set_option maxRecDepth 20000 in
theorem q_204_2703 (G : Nat × (Nat → Int32)) (d : Nat) (x0 : Int32) (s0 : Int32) (s1 : Int32) (σ : aH) : Lq G d M_204 (13, [some (.int x0)], [.int s0, .int s1], σ) = if s1 = s0 then Lq G d M_204 (16, [some (.int x0)], [], σ) else Lq G d M_204 (22, [some (.int x0)], [], σ) :=
  (aUn_eq (tkd G.1 G.2) tmi (aRun (tkd G.1 G.2) tmi tmt d) M_204 [] 1 (13, [some (.int x0)], [.int s0, .int s1], σ)).trans rfl
set_option maxRecDepth 20000 in
theorem q_204_2704 (G : Nat × (Nat → Int32)) (d : Nat) (x0 : Int32) (σ : aH) : Lq G d M_204 (16, [some (.int x0)], [], σ) = Lq G d M_204 (47, [some (.int x0)], [.int (999 : Int32)], σ) :=
  (aUn_eq (tkd G.1 G.2) tmi (aRun (tkd G.1 G.2) tmi tmt d) M_204 [] 2 (16, [some (.int x0)], [], σ)).trans rfl
set_option maxRecDepth 20000 in
theorem q_204_2705 (G : Nat × (Nat → Int32)) (d : Nat) (x0 : Int32) (s0 : Int32) (σ : aH) : Lq G d M_204 (47, [some (.int x0)], [.int s0], σ) = some (.inl (some (.int s0)), σ) :=
  (aUn_eq (tkd G.1 G.2) tmi (aRun (tkd G.1 G.2) tmi tmt d) M_204 [] 1 (47, [some (.int x0)], [.int s0], σ)).trans rfl
set_option maxRecDepth 20000 in
theorem q_204_2706 (G : Nat × (Nat → Int32)) (d : Nat) (x0 : Int32) (σ : aH) : Lq G d M_204 (22, [some (.int x0)], [], σ) = Lq G d M_204 (25, [some (.int x0)], [.int (21 : Int32), .int x0], σ) :=
  (aUn_eq (tkd G.1 G.2) tmi (aRun (tkd G.1 G.2) tmi tmt d) M_204 [] 2 (22, [some (.int x0)], [], σ)).trans rfl
set_option maxRecDepth 20000 in
theorem q_204_2707 (G : Nat × (Nat → Int32)) (d : Nat) (x0 : Int32) (s0 : Int32) (s1 : Int32) (σ : aH) : Lq G d M_204 (25, [some (.int x0)], [.int s0, .int s1], σ) = if s1 = s0 then Lq G d M_204 (28, [some (.int x0)], [], σ) else Lq G d M_204 (33, [some (.int x0)], [], σ) :=
  (aUn_eq (tkd G.1 G.2) tmi (aRun (tkd G.1 G.2) tmi tmt d) M_204 [] 1 (25, [some (.int x0)], [.int s0, .int s1], σ)).trans rfl
set_option maxRecDepth 20000 in
theorem q_204_2708 (G : Nat × (Nat → Int32)) (d : Nat) (x0 : Int32) (σ : aH) : Lq G d M_204 (28, [some (.int x0)], [], σ) = Lq G d M_204 (47, [some (.int x0)], [.int (100 : Int32)], σ) :=
  (aUn_eq (tkd G.1 G.2) tmi (aRun (tkd G.1 G.2) tmi tmt d) M_204 [] 2 (28, [some (.int x0)], [], σ)).trans rfl
set_option maxRecDepth 20000 in
theorem q_204_2709 (G : Nat × (Nat → Int32)) (d : Nat) (x0 : Int32) (σ : aH) : Lq G d M_204 (33, [some (.int x0)], [], σ) = Lq G d M_204 (36, [some (.int x0)], [.int (22 : Int32), .int x0], σ) :=
  (aUn_eq (tkd G.1 G.2) tmi (aRun (tkd G.1 G.2) tmi tmt d) M_204 [] 2 (33, [some (.int x0)], [], σ)).trans rfl
set_option maxRecDepth 20000 in
theorem q_204_2710 (G : Nat × (Nat → Int32)) (d : Nat) (x0 : Int32) (s0 : Int32) (s1 : Int32) (σ : aH) : Lq G d M_204 (36, [some (.int x0)], [.int s0, .int s1], σ) = if s1 = s0 then Lq G d M_204 (39, [some (.int x0)], [], σ) else Lq G d M_204 (45, [some (.int x0)], [], σ) :=
  (aUn_eq (tkd G.1 G.2) tmi (aRun (tkd G.1 G.2) tmi tmt d) M_204 [] 1 (36, [some (.int x0)], [.int s0, .int s1], σ)).trans rfl
set_option maxRecDepth 20000 in
theorem q_204_2711 (G : Nat × (Nat → Int32)) (d : Nat) (x0 : Int32) (σ : aH) : Lq G d M_204 (39, [some (.int x0)], [], σ) = Lq G d M_204 (47, [some (.int x0)], [.int (601 : Int32)], σ) :=
  (aUn_eq (tkd G.1 G.2) tmi (aRun (tkd G.1 G.2) tmi tmt d) M_204 [] 2 (39, [some (.int x0)], [], σ)).trans rfl
set_option maxRecDepth 20000 in
theorem q_204_2712 (G : Nat × (Nat → Int32)) (d : Nat) (x0 : Int32) (σ : aH) : Lq G d M_204 (45, [some (.int x0)], [], σ) = Lq G d M_204 (47, [some (.int x0)], [.int (50 : Int32)], σ) :=
  (aUn_eq (tkd G.1 G.2) tmi (aRun (tkd G.1 G.2) tmi tmt d) M_204 [] 1 (45, [some (.int x0)], [], σ)).trans rfl
set_option maxRecDepth 20000 in
theorem q_204_2713 (G : Nat × (Nat → Int32)) (d : Nat) (x0 : Int32) (σ : aH) : Lq G d M_204 (6, [some (.int x0)], [], σ) = Lq G d M_204 (47, [some (.int x0)], [.int (3 : Int32)], σ) :=
  (aUn_eq (tkd G.1 G.2) tmi (aRun (tkd G.1 G.2) tmi tmt d) M_204 [] 2 (6, [some (.int x0)], [], σ)).trans rfl
set_option maxRecDepth 20000 in
theorem q_205_2714 (G : Nat × (Nat → Int32)) (d : Nat) (x0 : Int32) (σ : aH) : Lq G d M_205 (0, [some (.int x0)], [], σ) = Lq G d M_205 (3, [some (.int x0)], [.int (20 : Int32), .int x0], σ) :=
  (aUn_eq (tkd G.1 G.2) tmi (aRun (tkd G.1 G.2) tmi tmt d) M_205 [] 2 (0, [some (.int x0)], [], σ)).trans rfl
set_option maxRecDepth 20000 in
theorem q_205_2715 (G : Nat × (Nat → Int32)) (d : Nat) (x0 : Int32) (s0 : Int32) (s1 : Int32) (σ : aH) : Lq G d M_205 (3, [some (.int x0)], [.int s0, .int s1], σ) = if s0 ≤ s1 then Lq G d M_205 (10, [some (.int x0)], [], σ) else Lq G d M_205 (6, [some (.int x0)], [], σ) :=
  (aUn_eq (tkd G.1 G.2) tmi (aRun (tkd G.1 G.2) tmi tmt d) M_205 [] 1 (3, [some (.int x0)], [.int s0, .int s1], σ)).trans rfl
set_option maxRecDepth 20000 in
theorem q_205_2716 (G : Nat × (Nat → Int32)) (d : Nat) (x0 : Int32) (σ : aH) : Lq G d M_205 (10, [some (.int x0)], [], σ) = Lq G d M_205 (14, [some (.int x0)], [.int (x0 - (8 : Int32))], σ) :=
  (aUn_eq (tkd G.1 G.2) tmi (aRun (tkd G.1 G.2) tmi tmt d) M_205 [] 3 (10, [some (.int x0)], [], σ)).trans rfl
set_option maxRecDepth 20000 in
theorem q_205_2717 (G : Nat × (Nat → Int32)) (d : Nat) (x0 : Int32) (s0 : Int32) (σ : aH) : Lq G d M_205 (14, [some (.int x0)], [.int s0], σ) = some (.inl (some (.int s0)), σ) :=
  (aUn_eq (tkd G.1 G.2) tmi (aRun (tkd G.1 G.2) tmi tmt d) M_205 [] 1 (14, [some (.int x0)], [.int s0], σ)).trans rfl
set_option maxRecDepth 20000 in
theorem q_205_2718 (G : Nat × (Nat → Int32)) (d : Nat) (x0 : Int32) (σ : aH) : Lq G d M_205 (6, [some (.int x0)], [], σ) = Lq G d M_205 (14, [some (.int x0)], [.int x0], σ) :=
  (aUn_eq (tkd G.1 G.2) tmi (aRun (tkd G.1 G.2) tmi tmt d) M_205 [] 2 (6, [some (.int x0)], [], σ)).trans rfl
set_option maxRecDepth 20000 in
theorem q_117_2719 (G : Nat × (Nat → Int32)) (d : Nat) (x1 : Int32) (x2 : Int32) (σ : aH) : Lq G d M_117 (0, [some (.ref 13), some (.int x1), some (.int x2)], [], σ) = Lq G d M_117 (10, [some (.ref 13), some (.int x1), some (.int x2)], [.int ((x1 * (18 : Int32)) + x2), .ref 14], σ) :=
  (aUn_eq (tkd G.1 G.2) tmi (aRun (tkd G.1 G.2) tmi tmt d) M_117 [] 7 (0, [some (.ref 13), some (.int x1), some (.int x2)], [], σ)).trans rfl
set_option maxRecDepth 20000 in
theorem q_117_2720 (G : Nat × (Nat → Int32)) (d : Nat) (x1 : Int32) (x2 : Int32) (s0 : Int32) (σ : aH) : Lq G d M_117 (10, [some (.ref 13), some (.int x1), some (.int x2)], [.int s0, .ref 14], σ) = aCI (Rn G d 32 [.ref 14, .int s0] σ) fun v2 σ1 => Lq G d M_117 (13, [some (.ref 13), some (.int x1), some (.int x2)], [.int v2], σ1) :=
  (aUn_eq (tkd G.1 G.2) tmi (aRun (tkd G.1 G.2) tmi tmt d) M_117 [] 1 (10, [some (.ref 13), some (.int x1), some (.int x2)], [.int s0, .ref 14], σ)).trans rfl
set_option maxRecDepth 20000 in
theorem q_117_2721 (G : Nat × (Nat → Int32)) (d : Nat) (x1 : Int32) (x2 : Int32) (s0 : Int32) (σ : aH) : Lq G d M_117 (13, [some (.ref 13), some (.int x1), some (.int x2)], [.int s0], σ) = some (.inl (some (.int s0)), σ) :=
  (aUn_eq (tkd G.1 G.2) tmi (aRun (tkd G.1 G.2) tmi tmt d) M_117 [] 1 (13, [some (.ref 13), some (.int x1), some (.int x2)], [.int s0], σ)).trans rfl
set_option maxRecDepth 20000 in
theorem q_121_2722 (G : Nat × (Nat → Int32)) (d : Nat) (x1 : Int32) (σ : aH) : Lq G d M_121 (0, [some (.ref 17), some (.int x1)], [], σ) = Lq G d M_121 (5, [some (.ref 17), some (.int x1)], [.int x1, .ref 19], σ) :=
  (aUn_eq (tkd G.1 G.2) tmi (aRun (tkd G.1 G.2) tmi tmt d) M_121 [] 3 (0, [some (.ref 17), some (.int x1)], [], σ)).trans rfl
set_option maxRecDepth 20000 in
theorem q_121_2723 (G : Nat × (Nat → Int32)) (d : Nat) (x1 : Int32) (s0 : Int32) (σ : aH) : Lq G d M_121 (5, [some (.ref 17), some (.int x1)], [.int s0, .ref 19], σ) = aCI (Rn G d 32 [.ref 19, .int s0] σ) fun v2 σ1 => Lq G d M_121 (8, [some (.ref 17), some (.int x1)], [.int v2], σ1) :=
  (aUn_eq (tkd G.1 G.2) tmi (aRun (tkd G.1 G.2) tmi tmt d) M_121 [] 1 (5, [some (.ref 17), some (.int x1)], [.int s0, .ref 19], σ)).trans rfl
set_option maxRecDepth 20000 in
theorem q_121_2724 (G : Nat × (Nat → Int32)) (d : Nat) (x1 : Int32) (s0 : Int32) (σ : aH) : Lq G d M_121 (8, [some (.ref 17), some (.int x1)], [.int s0], σ) = some (.inl (some (.int s0)), σ) :=
  (aUn_eq (tkd G.1 G.2) tmi (aRun (tkd G.1 G.2) tmi tmt d) M_121 [] 1 (8, [some (.ref 17), some (.int x1)], [.int s0], σ)).trans rfl
set_option maxRecDepth 20000 in
theorem q_122_2725 (G : Nat × (Nat → Int32)) (d : Nat) (x1 : Int32) (σ : aH) : Lq G d M_122 (0, [some (.ref 17), some (.int x1)], [], σ) = Lq G d M_122 (5, [some (.ref 17), some (.int x1)], [.int x1, .ref 20], σ) :=
  (aUn_eq (tkd G.1 G.2) tmi (aRun (tkd G.1 G.2) tmi tmt d) M_122 [] 3 (0, [some (.ref 17), some (.int x1)], [], σ)).trans rfl
set_option maxRecDepth 20000 in
theorem q_122_2726 (G : Nat × (Nat → Int32)) (d : Nat) (x1 : Int32) (s0 : Int32) (σ : aH) : Lq G d M_122 (5, [some (.ref 17), some (.int x1)], [.int s0, .ref 20], σ) = aCI (Rn G d 32 [.ref 20, .int s0] σ) fun v2 σ1 => Lq G d M_122 (8, [some (.ref 17), some (.int x1)], [.int v2], σ1) :=
  (aUn_eq (tkd G.1 G.2) tmi (aRun (tkd G.1 G.2) tmi tmt d) M_122 [] 1 (5, [some (.ref 17), some (.int x1)], [.int s0, .ref 20], σ)).trans rfl
set_option maxRecDepth 20000 in
theorem q_122_2727 (G : Nat × (Nat → Int32)) (d : Nat) (x1 : Int32) (s0 : Int32) (σ : aH) : Lq G d M_122 (8, [some (.ref 17), some (.int x1)], [.int s0], σ) = some (.inl (some (.int s0)), σ) :=
  (aUn_eq (tkd G.1 G.2) tmi (aRun (tkd G.1 G.2) tmi tmt d) M_122 [] 1 (8, [some (.ref 17), some (.int x1)], [.int s0], σ)).trans rfl
set_option maxRecDepth 20000 in
theorem q_208_2728 (G : Nat × (Nat → Int32)) (d : Nat) (x1 : Int32) (σ : aH) : Lq G d M_208 (0, [some (.ref 17), some (.int x1)], [], σ) = Lq G d M_208 (5, [some (.ref 17), some (.int x1)], [.int x1, .ref 18], σ) :=
  (aUn_eq (tkd G.1 G.2) tmi (aRun (tkd G.1 G.2) tmi tmt d) M_208 [] 3 (0, [some (.ref 17), some (.int x1)], [], σ)).trans rfl
set_option maxRecDepth 20000 in
theorem q_208_2729 (G : Nat × (Nat → Int32)) (d : Nat) (x1 : Int32) (s0 : Int32) (σ : aH) : Lq G d M_208 (5, [some (.ref 17), some (.int x1)], [.int s0, .ref 18], σ) = aCI (Rn G d 32 [.ref 18, .int s0] σ) fun v2 σ1 => Lq G d M_208 (8, [some (.ref 17), some (.int x1)], [.int v2], σ1) :=
  (aUn_eq (tkd G.1 G.2) tmi (aRun (tkd G.1 G.2) tmi tmt d) M_208 [] 1 (5, [some (.ref 17), some (.int x1)], [.int s0, .ref 18], σ)).trans rfl
set_option maxRecDepth 20000 in
theorem q_208_2730 (G : Nat × (Nat → Int32)) (d : Nat) (x1 : Int32) (s0 : Int32) (σ : aH) : Lq G d M_208 (8, [some (.ref 17), some (.int x1)], [.int s0], σ) = some (.inl (some (.int s0)), σ) :=
  (aUn_eq (tkd G.1 G.2) tmi (aRun (tkd G.1 G.2) tmi tmt d) M_208 [] 1 (8, [some (.ref 17), some (.int x1)], [.int s0], σ)).trans rfl
set_option maxRecDepth 20000 in
theorem q_135_2731 (G : Nat × (Nat → Int32)) (d : Nat) (x1 : Int32) (x2 : Int32) (σ : aH) : Lq G d M_135 (0, [some (.ref 33), some (.int x1), some (.int x2), none, none], [], σ) = Lq G d M_135 (5, [some (.ref 33), some (.int x1), some (.int x2), some (.int (0 : Int32)), some (.int (0 : Int32))], [], σ) :=
  (aUn_eq (tkd G.1 G.2) tmi (aRun (tkd G.1 G.2) tmi tmt d) M_135 [] 4 (0, [some (.ref 33), some (.int x1), some (.int x2), none, none], [], σ)).trans rfl
set_option maxRecDepth 20000 in
theorem q_135_2732 (G : Nat × (Nat → Int32)) (d : Nat) (x1 : Int32) (x2 : Int32) (x3 : Int32) (x4 : Int32) (σ : aH) : Lq G d M_135 (5, [some (.ref 33), some (.int x1), some (.int x2), some (.int x3), some (.int x4)], [], σ) = Lq G d M_135 (11, [some (.ref 33), some (.int x1), some (.int x2), some (.int x3), some (.int x4)], [.int (σ.1 33 4), .int x4], σ) :=
  (aUn_eq (tkd G.1 G.2) tmi (aRun (tkd G.1 G.2) tmi tmt d) M_135 [] 3 (5, [some (.ref 33), some (.int x1), some (.int x2), some (.int x3), some (.int x4)], [], σ)).trans rfl
set_option maxRecDepth 20000 in
theorem q_135_2733 (G : Nat × (Nat → Int32)) (d : Nat) (x1 : Int32) (x2 : Int32) (x3 : Int32) (x4 : Int32) (s0 : Int32) (s1 : Int32) (σ : aH) : Lq G d M_135 (11, [some (.ref 33), some (.int x1), some (.int x2), some (.int x3), some (.int x4)], [.int s0, .int s1], σ) = if s0 ≤ s1 then Lq G d M_135 (50, [some (.ref 33), some (.int x1), some (.int x2), some (.int x3), some (.int x4)], [], σ) else Lq G d M_135 (14, [some (.ref 33), some (.int x1), some (.int x2), some (.int x3), some (.int x4)], [], σ) :=
  (aUn_eq (tkd G.1 G.2) tmi (aRun (tkd G.1 G.2) tmi tmt d) M_135 [] 1 (11, [some (.ref 33), some (.int x1), some (.int x2), some (.int x3), some (.int x4)], [.int s0, .int s1], σ)).trans rfl
set_option maxRecDepth 20000 in
theorem q_135_2734 (G : Nat × (Nat → Int32)) (d : Nat) (x1 : Int32) (x2 : Int32) (x3 : Int32) (x4 : Int32) (σ : aH) : Lq G d M_135 (50, [some (.ref 33), some (.int x1), some (.int x2), some (.int x3), some (.int x4)], [], σ) = Lq G d M_135 (51, [some (.ref 33), some (.int x1), some (.int x2), some (.int x3), some (.int x4)], [.int x3], σ) :=
  (aUn_eq (tkd G.1 G.2) tmi (aRun (tkd G.1 G.2) tmi tmt d) M_135 [] 1 (50, [some (.ref 33), some (.int x1), some (.int x2), some (.int x3), some (.int x4)], [], σ)).trans rfl
set_option maxRecDepth 20000 in
theorem q_135_2735 (G : Nat × (Nat → Int32)) (d : Nat) (x1 : Int32) (x2 : Int32) (x3 : Int32) (x4 : Int32) (s0 : Int32) (σ : aH) : Lq G d M_135 (51, [some (.ref 33), some (.int x1), some (.int x2), some (.int x3), some (.int x4)], [.int s0], σ) = some (.inl (some (.int s0)), σ) :=
  (aUn_eq (tkd G.1 G.2) tmi (aRun (tkd G.1 G.2) tmi tmt d) M_135 [] 1 (51, [some (.ref 33), some (.int x1), some (.int x2), some (.int x3), some (.int x4)], [.int s0], σ)).trans rfl
set_option maxRecDepth 20000 in
theorem q_135_2736 (G : Nat × (Nat → Int32)) (d : Nat) (x1 : Int32) (x2 : Int32) (x3 : Int32) (x4 : Int32) (σ : aH) : Lq G d M_135 (14, [some (.ref 33), some (.int x1), some (.int x2), some (.int x3), some (.int x4)], [], σ) = Lq G d M_135 (21, [some (.ref 33), some (.int x1), some (.int x2), some (.int x3), some (.int x4)], [.int x4, .ref 39, .int x3], σ) :=
  (aUn_eq (tkd G.1 G.2) tmi (aRun (tkd G.1 G.2) tmi tmt d) M_135 [] 4 (14, [some (.ref 33), some (.int x1), some (.int x2), some (.int x3), some (.int x4)], [], σ)).trans rfl
set_option maxRecDepth 20000 in
theorem q_135_2737 (G : Nat × (Nat → Int32)) (d : Nat) (x1 : Int32) (x2 : Int32) (x3 : Int32) (x4 : Int32) (s0 : Int32) (s2 : Int32) (σ : aH) : Lq G d M_135 (21, [some (.ref 33), some (.int x1), some (.int x2), some (.int x3), some (.int x4)], [.int s0, .ref 39, .int s2], σ) = aIx (s0) 12 fun j1 => Lq G d M_135 (22, [some (.ref 33), some (.int x1), some (.int x2), some (.int x3), some (.int x4)], [.int (σ.1 39 j1), .int s2], σ) :=
  (aUn_eq (tkd G.1 G.2) tmi (aRun (tkd G.1 G.2) tmi tmt d) M_135 [] 1 (21, [some (.ref 33), some (.int x1), some (.int x2), some (.int x3), some (.int x4)], [.int s0, .ref 39, .int s2], σ)).trans rfl
set_option maxRecDepth 20000 in
theorem q_135_2738 (G : Nat × (Nat → Int32)) (d : Nat) (x1 : Int32) (x2 : Int32) (x3 : Int32) (x4 : Int32) (s0 : Int32) (s1 : Int32) (σ : aH) : Lq G d M_135 (22, [some (.ref 33), some (.int x1), some (.int x2), some (.int x3), some (.int x4)], [.int s0, .int s1], σ) = Lq G d M_135 (23, [some (.ref 33), some (.int x1), some (.int x2), some (.int x3), some (.int x4)], [.int x2, .int s0, .int s1], σ) :=
  (aUn_eq (tkd G.1 G.2) tmi (aRun (tkd G.1 G.2) tmi tmt d) M_135 [] 1 (22, [some (.ref 33), some (.int x1), some (.int x2), some (.int x3), some (.int x4)], [.int s0, .int s1], σ)).trans rfl
set_option maxRecDepth 20000 in
theorem q_135_2739 (G : Nat × (Nat → Int32)) (d : Nat) (x1 : Int32) (x2 : Int32) (x3 : Int32) (x4 : Int32) (s0 : Int32) (s1 : Int32) (s2 : Int32) (σ : aH) : Lq G d M_135 (23, [some (.ref 33), some (.int x1), some (.int x2), some (.int x3), some (.int x4)], [.int s0, .int s1, .int s2], σ) = if s1 = s0 then Lq G d M_135 (26, [some (.ref 33), some (.int x1), some (.int x2), some (.int x3), some (.int x4)], [.int s2], σ) else Lq G d M_135 (41, [some (.ref 33), some (.int x1), some (.int x2), some (.int x3), some (.int x4)], [.int s2], σ) :=
  (aUn_eq (tkd G.1 G.2) tmi (aRun (tkd G.1 G.2) tmi tmt d) M_135 [] 1 (23, [some (.ref 33), some (.int x1), some (.int x2), some (.int x3), some (.int x4)], [.int s0, .int s1, .int s2], σ)).trans rfl
set_option maxRecDepth 20000 in
theorem q_135_2740 (G : Nat × (Nat → Int32)) (d : Nat) (x1 : Int32) (x2 : Int32) (x3 : Int32) (x4 : Int32) (s0 : Int32) (σ : aH) : Lq G d M_135 (26, [some (.ref 33), some (.int x1), some (.int x2), some (.int x3), some (.int x4)], [.int s0], σ) = Lq G d M_135 (37, [some (.ref 33), some (.int x1), some (.int x2), some (.int x3), some (.int x4)], [.int (((17 : Int32) * x1) + x4), .ref 40, .int s0], σ) :=
  (aUn_eq (tkd G.1 G.2) tmi (aRun (tkd G.1 G.2) tmi tmt d) M_135 [] 7 (26, [some (.ref 33), some (.int x1), some (.int x2), some (.int x3), some (.int x4)], [.int s0], σ)).trans rfl
set_option maxRecDepth 20000 in
theorem q_135_2741 (G : Nat × (Nat → Int32)) (d : Nat) (x1 : Int32) (x2 : Int32) (x3 : Int32) (x4 : Int32) (s0 : Int32) (s2 : Int32) (σ : aH) : Lq G d M_135 (37, [some (.ref 33), some (.int x1), some (.int x2), some (.int x3), some (.int x4)], [.int s0, .ref 40, .int s2], σ) = aIx (s0) 1020 fun j1 => Lq G d M_135 (38, [some (.ref 33), some (.int x1), some (.int x2), some (.int x3), some (.int x4)], [.int (σ.1 40 j1), .int s2], σ) :=
  (aUn_eq (tkd G.1 G.2) tmi (aRun (tkd G.1 G.2) tmi tmt d) M_135 [] 1 (37, [some (.ref 33), some (.int x1), some (.int x2), some (.int x3), some (.int x4)], [.int s0, .ref 40, .int s2], σ)).trans rfl
set_option maxRecDepth 20000 in
theorem q_135_2742 (G : Nat × (Nat → Int32)) (d : Nat) (x1 : Int32) (x2 : Int32) (x3 : Int32) (x4 : Int32) (s0 : Int32) (s1 : Int32) (σ : aH) : Lq G d M_135 (38, [some (.ref 33), some (.int x1), some (.int x2), some (.int x3), some (.int x4)], [.int s0, .int s1], σ) = Lq G d M_135 (47, [some (.ref 33), some (.int x1), some (.int x2), some (.int (s1 + s0)), some (.int (x4 + (1 : Int32)))], [], σ) :=
  (aUn_eq (tkd G.1 G.2) tmi (aRun (tkd G.1 G.2) tmi tmt d) M_135 [] 4 (38, [some (.ref 33), some (.int x1), some (.int x2), some (.int x3), some (.int x4)], [.int s0, .int s1], σ)).trans rfl
set_option maxRecDepth 20000 in
theorem q_135_2743 (G : Nat × (Nat → Int32)) (d : Nat) (x1 : Int32) (x2 : Int32) (x3 : Int32) (x4 : Int32) (σ : aH) : Lq G d M_135 (47, [some (.ref 33), some (.int x1), some (.int x2), some (.int x3), some (.int x4)], [], σ) = Lq G d M_135 (5, [some (.ref 33), some (.int x1), some (.int x2), some (.int x3), some (.int x4)], [], σ) :=
  (aUn_eq (tkd G.1 G.2) tmi (aRun (tkd G.1 G.2) tmi tmt d) M_135 [] 1 (47, [some (.ref 33), some (.int x1), some (.int x2), some (.int x3), some (.int x4)], [], σ)).trans rfl
set_option maxRecDepth 20000 in
theorem q_135_2744 (G : Nat × (Nat → Int32)) (d : Nat) (x1 : Int32) (x2 : Int32) (x3 : Int32) (x4 : Int32) (s0 : Int32) (σ : aH) : Lq G d M_135 (41, [some (.ref 33), some (.int x1), some (.int x2), some (.int x3), some (.int x4)], [.int s0], σ) = Lq G d M_135 (47, [some (.ref 33), some (.int x1), some (.int x2), some (.int (s0 + (0 : Int32))), some (.int (x4 + (1 : Int32)))], [], σ) :=
  (aUn_eq (tkd G.1 G.2) tmi (aRun (tkd G.1 G.2) tmi tmt d) M_135 [] 4 (41, [some (.ref 33), some (.int x1), some (.int x2), some (.int x3), some (.int x4)], [.int s0], σ)).trans rfl
set_option maxRecDepth 20000 in
theorem q_132_2745 (G : Nat × (Nat → Int32)) (d : Nat) (x1 : Int32) (σ : aH) : Lq G d M_132 (0, [some (.ref 33), some (.int x1), none], [], σ) = Lq G d M_132 (2, [some (.ref 33), some (.int x1), some (.int (0 : Int32))], [], σ) :=
  (aUn_eq (tkd G.1 G.2) tmi (aRun (tkd G.1 G.2) tmi tmt d) M_132 [] 2 (0, [some (.ref 33), some (.int x1), none], [], σ)).trans rfl
set_option maxRecDepth 20000 in
theorem q_132_2746 (G : Nat × (Nat → Int32)) (d : Nat) (x1 : Int32) (x2 : Int32) (σ : aH) : Lq G d M_132 (2, [some (.ref 33), some (.int x1), some (.int x2)], [], σ) = Lq G d M_132 (7, [some (.ref 33), some (.int x1), some (.int x2)], [.int (σ.1 33 5), .int x2], σ) :=
  (aUn_eq (tkd G.1 G.2) tmi (aRun (tkd G.1 G.2) tmi tmt d) M_132 [] 3 (2, [some (.ref 33), some (.int x1), some (.int x2)], [], σ)).trans rfl
set_option maxRecDepth 20000 in
theorem q_132_2747 (G : Nat × (Nat → Int32)) (d : Nat) (x1 : Int32) (x2 : Int32) (s0 : Int32) (s1 : Int32) (σ : aH) : Lq G d M_132 (7, [some (.ref 33), some (.int x1), some (.int x2)], [.int s0, .int s1], σ) = if s0 ≤ s1 then Lq G d M_132 (32, [some (.ref 33), some (.int x1), some (.int x2)], [], σ) else Lq G d M_132 (10, [some (.ref 33), some (.int x1), some (.int x2)], [], σ) :=
  (aUn_eq (tkd G.1 G.2) tmi (aRun (tkd G.1 G.2) tmi tmt d) M_132 [] 1 (7, [some (.ref 33), some (.int x1), some (.int x2)], [.int s0, .int s1], σ)).trans rfl
set_option maxRecDepth 20000 in
theorem q_132_2748 (G : Nat × (Nat → Int32)) (d : Nat) (x1 : Int32) (x2 : Int32) (σ : aH) : Lq G d M_132 (32, [some (.ref 33), some (.int x1), some (.int x2)], [], σ) = Lq G d M_132 (44, [some (.ref 33), some (.int x1), some (.int x2)], [.int (((17 : Int32) * x1) + (15 : Int32)), .ref 40, .ref 33], σ) :=
  (aUn_eq (tkd G.1 G.2) tmi (aRun (tkd G.1 G.2) tmi tmt d) M_132 [] 8 (32, [some (.ref 33), some (.int x1), some (.int x2)], [], σ)).trans rfl
set_option maxRecDepth 20000 in
theorem q_132_2749 (G : Nat × (Nat → Int32)) (d : Nat) (x1 : Int32) (x2 : Int32) (s0 : Int32) (σ : aH) : Lq G d M_132 (44, [some (.ref 33), some (.int x1), some (.int x2)], [.int s0, .ref 40, .ref 33], σ) = aIx (s0) 1020 fun j1 => Lq G d M_132 (45, [some (.ref 33), some (.int x1), some (.int x2)], [.int (σ.1 40 j1), .ref 33], σ) :=
  (aUn_eq (tkd G.1 G.2) tmi (aRun (tkd G.1 G.2) tmi tmt d) M_132 [] 1 (44, [some (.ref 33), some (.int x1), some (.int x2)], [.int s0, .ref 40, .ref 33], σ)).trans rfl
set_option maxRecDepth 20000 in
theorem q_132_2750 (G : Nat × (Nat → Int32)) (d : Nat) (x1 : Int32) (x2 : Int32) (s0 : Int32) (σ : aH) : Lq G d M_132 (45, [some (.ref 33), some (.int x1), some (.int x2)], [.int s0, .ref 33], σ) = aCI (Rn G d 137 [.ref 33, .int s0] σ) fun v2 σ1 => Lq G d M_132 (48, [some (.ref 33), some (.int x1), some (.int x2)], [.int v2], σ1) :=
  (aUn_eq (tkd G.1 G.2) tmi (aRun (tkd G.1 G.2) tmi tmt d) M_132 [] 1 (45, [some (.ref 33), some (.int x1), some (.int x2)], [.int s0, .ref 33], σ)).trans rfl
set_option maxRecDepth 20000 in
theorem q_132_2751 (G : Nat × (Nat → Int32)) (d : Nat) (x1 : Int32) (x2 : Int32) (s0 : Int32) (σ : aH) : Lq G d M_132 (48, [some (.ref 33), some (.int x1), some (.int x2)], [.int s0], σ) = if s0 = 0 then Lq G d M_132 (56, [some (.ref 33), some (.int x1), some (.int x2)], [], σ) else Lq G d M_132 (51, [some (.ref 33), some (.int x1), some (.int x2)], [], σ) :=
  (aUn_eq (tkd G.1 G.2) tmi (aRun (tkd G.1 G.2) tmi tmt d) M_132 [] 1 (48, [some (.ref 33), some (.int x1), some (.int x2)], [.int s0], σ)).trans rfl
set_option maxRecDepth 20000 in
theorem q_132_2752 (G : Nat × (Nat → Int32)) (d : Nat) (x1 : Int32) (x2 : Int32) (σ : aH) : Lq G d M_132 (56, [some (.ref 33), some (.int x1), some (.int x2)], [], σ) = Lq G d M_132 (57, [some (.ref 33), some (.int x1), some (.int x2)], [.int (-1 : Int32)], σ) :=
  (aUn_eq (tkd G.1 G.2) tmi (aRun (tkd G.1 G.2) tmi tmt d) M_132 [] 1 (56, [some (.ref 33), some (.int x1), some (.int x2)], [], σ)).trans rfl
set_option maxRecDepth 20000 in
theorem q_132_2753 (G : Nat × (Nat → Int32)) (d : Nat) (x1 : Int32) (x2 : Int32) (s0 : Int32) (σ : aH) : Lq G d M_132 (57, [some (.ref 33), some (.int x1), some (.int x2)], [.int s0], σ) = some (.inl (some (.int s0)), σ) :=
  (aUn_eq (tkd G.1 G.2) tmi (aRun (tkd G.1 G.2) tmi tmt d) M_132 [] 1 (57, [some (.ref 33), some (.int x1), some (.int x2)], [.int s0], σ)).trans rfl
set_option maxRecDepth 20000 in
theorem q_132_2754 (G : Nat × (Nat → Int32)) (d : Nat) (x1 : Int32) (x2 : Int32) (σ : aH) : Lq G d M_132 (51, [some (.ref 33), some (.int x1), some (.int x2)], [], σ) = Lq G d M_132 (57, [some (.ref 33), some (.int x1), some (.int x2)], [.int (-2 : Int32)], σ) :=
  (aUn_eq (tkd G.1 G.2) tmi (aRun (tkd G.1 G.2) tmi tmt d) M_132 [] 2 (51, [some (.ref 33), some (.int x1), some (.int x2)], [], σ)).trans rfl
set_option maxRecDepth 20000 in
theorem q_132_2755 (G : Nat × (Nat → Int32)) (d : Nat) (x1 : Int32) (x2 : Int32) (σ : aH) : Lq G d M_132 (10, [some (.ref 33), some (.int x1), some (.int x2)], [], σ) = Lq G d M_132 (16, [some (.ref 33), some (.int x1), some (.int x2)], [.int x2, .ref 37, .ref 33], σ) :=
  (aUn_eq (tkd G.1 G.2) tmi (aRun (tkd G.1 G.2) tmi tmt d) M_132 [] 4 (10, [some (.ref 33), some (.int x1), some (.int x2)], [], σ)).trans rfl
set_option maxRecDepth 20000 in
theorem q_132_2756 (G : Nat × (Nat → Int32)) (d : Nat) (x1 : Int32) (x2 : Int32) (s0 : Int32) (σ : aH) : Lq G d M_132 (16, [some (.ref 33), some (.int x1), some (.int x2)], [.int s0, .ref 37, .ref 33], σ) = aIx (s0) 4 fun j1 => Lq G d M_132 (17, [some (.ref 33), some (.int x1), some (.int x2)], [.int (σ.1 37 j1), .ref 33], σ) :=
  (aUn_eq (tkd G.1 G.2) tmi (aRun (tkd G.1 G.2) tmi tmt d) M_132 [] 1 (16, [some (.ref 33), some (.int x1), some (.int x2)], [.int s0, .ref 37, .ref 33], σ)).trans rfl
set_option maxRecDepth 20000 in
theorem q_132_2757 (G : Nat × (Nat → Int32)) (d : Nat) (x1 : Int32) (x2 : Int32) (s0 : Int32) (σ : aH) : Lq G d M_132 (17, [some (.ref 33), some (.int x1), some (.int x2)], [.int s0, .ref 33], σ) = Lq G d M_132 (18, [some (.ref 33), some (.int x1), some (.int x2)], [.int x1, .int s0, .ref 33], σ) :=
  (aUn_eq (tkd G.1 G.2) tmi (aRun (tkd G.1 G.2) tmi tmt d) M_132 [] 1 (17, [some (.ref 33), some (.int x1), some (.int x2)], [.int s0, .ref 33], σ)).trans rfl
set_option maxRecDepth 20000 in
theorem q_132_2758 (G : Nat × (Nat → Int32)) (d : Nat) (x1 : Int32) (x2 : Int32) (s0 : Int32) (s1 : Int32) (σ : aH) : Lq G d M_132 (18, [some (.ref 33), some (.int x1), some (.int x2)], [.int s0, .int s1, .ref 33], σ) = aCI (Rn G d 133 [.ref 33, .int s1, .int s0] σ) fun v2 σ1 => Lq G d M_132 (21, [some (.ref 33), some (.int x1), some (.int x2)], [.int v2], σ1) :=
  (aUn_eq (tkd G.1 G.2) tmi (aRun (tkd G.1 G.2) tmi tmt d) M_132 [] 1 (18, [some (.ref 33), some (.int x1), some (.int x2)], [.int s0, .int s1, .ref 33], σ)).trans rfl
set_option maxRecDepth 20000 in
theorem q_132_2759 (G : Nat × (Nat → Int32)) (d : Nat) (x1 : Int32) (x2 : Int32) (s0 : Int32) (σ : aH) : Lq G d M_132 (21, [some (.ref 33), some (.int x1), some (.int x2)], [.int s0], σ) = if s0 = 0 then Lq G d M_132 (26, [some (.ref 33), some (.int x1), some (.int x2)], [], σ) else Lq G d M_132 (24, [some (.ref 33), some (.int x1), some (.int x2)], [], σ) :=
  (aUn_eq (tkd G.1 G.2) tmi (aRun (tkd G.1 G.2) tmi tmt d) M_132 [] 1 (21, [some (.ref 33), some (.int x1), some (.int x2)], [.int s0], σ)).trans rfl
set_option maxRecDepth 20000 in
theorem q_132_2760 (G : Nat × (Nat → Int32)) (d : Nat) (x1 : Int32) (x2 : Int32) (σ : aH) : Lq G d M_132 (26, [some (.ref 33), some (.int x1), some (.int x2)], [], σ) = Lq G d M_132 (2, [some (.ref 33), some (.int x1), some (.int (x2 + (1 : Int32)))], [], σ) :=
  (aUn_eq (tkd G.1 G.2) tmi (aRun (tkd G.1 G.2) tmi tmt d) M_132 [] 2 (26, [some (.ref 33), some (.int x1), some (.int x2)], [], σ)).trans rfl
set_option maxRecDepth 20000 in
theorem q_132_2761 (G : Nat × (Nat → Int32)) (d : Nat) (x1 : Int32) (x2 : Int32) (σ : aH) : Lq G d M_132 (24, [some (.ref 33), some (.int x1), some (.int x2)], [], σ) = Lq G d M_132 (25, [some (.ref 33), some (.int x1), some (.int x2)], [.int x2], σ) :=
  (aUn_eq (tkd G.1 G.2) tmi (aRun (tkd G.1 G.2) tmi tmt d) M_132 [] 1 (24, [some (.ref 33), some (.int x1), some (.int x2)], [], σ)).trans rfl
set_option maxRecDepth 20000 in
theorem q_132_2762 (G : Nat × (Nat → Int32)) (d : Nat) (x1 : Int32) (x2 : Int32) (s0 : Int32) (σ : aH) : Lq G d M_132 (25, [some (.ref 33), some (.int x1), some (.int x2)], [.int s0], σ) = some (.inl (some (.int s0)), σ) :=
  (aUn_eq (tkd G.1 G.2) tmi (aRun (tkd G.1 G.2) tmi tmt d) M_132 [] 1 (25, [some (.ref 33), some (.int x1), some (.int x2)], [.int s0], σ)).trans rfl
set_option maxRecDepth 20000 in
theorem q_212_2763 (G : Nat × (Nat → Int32)) (d : Nat) (x1 : Int32) (x2 : Int32) (x3 : Int32) (σ : aH) : Lq G d M_212 (0, [some (.ref 0), some (.int x1), some (.int x2), some (.int x3), none, none, none, none, none], [], σ) = Lq G d M_212 (6, [some (.ref 0), some (.int x1), some (.int x2), none, some (.int x3), some (.int (0 : Int32)), none, none, none], [], σ) :=
  (aUn_eq (tkd G.1 G.2) tmi (aRun (tkd G.1 G.2) tmi tmt d) M_212 [] 4 (0, [some (.ref 0), some (.int x1), some (.int x2), some (.int x3), none, none, none, none, none], [], σ)).trans rfl
set_option maxRecDepth 20000 in
theorem q_212_2764 (G : Nat × (Nat → Int32)) (d : Nat) (x1 : Int32) (x2 : Int32) (x4 : Int32) (x5 : Int32) (σ : aH) : Lq G d M_212 (6, [some (.ref 0), some (.int x1), some (.int x2), none, some (.int x4), some (.int x5), none, none, none], [], σ) = Lq G d M_212 (10, [some (.ref 0), some (.int x1), some (.int x2), none, some (.int x4), some (.int x5), none, none, none], [.int (14 : Int32), .int x5], σ) :=
  (aUn_eq (tkd G.1 G.2) tmi (aRun (tkd G.1 G.2) tmi tmt d) M_212 [] 2 (6, [some (.ref 0), some (.int x1), some (.int x2), none, some (.int x4), some (.int x5), none, none, none], [], σ)).trans rfl
set_option maxRecDepth 20000 in
theorem q_212_2765 (G : Nat × (Nat → Int32)) (d : Nat) (x1 : Int32) (x2 : Int32) (x4 : Int32) (x5 : Int32) (s0 : Int32) (s1 : Int32) (σ : aH) : Lq G d M_212 (10, [some (.ref 0), some (.int x1), some (.int x2), none, some (.int x4), some (.int x5), none, none, none], [.int s0, .int s1], σ) = if s0 < s1 then Lq G d M_212 (127, [some (.ref 0), some (.int x1), some (.int x2), none, some (.int x4), some (.int x5), none, none, none], [], σ) else Lq G d M_212 (13, [some (.ref 0), some (.int x1), some (.int x2), none, some (.int x4), some (.int x5), none, none, none], [], σ) :=
  (aUn_eq (tkd G.1 G.2) tmi (aRun (tkd G.1 G.2) tmi tmt d) M_212 [] 1 (10, [some (.ref 0), some (.int x1), some (.int x2), none, some (.int x4), some (.int x5), none, none, none], [.int s0, .int s1], σ)).trans rfl
set_option maxRecDepth 20000 in
theorem q_212_2766 (G : Nat × (Nat → Int32)) (d : Nat) (x1 : Int32) (x2 : Int32) (x4 : Int32) (x5 : Int32) (σ : aH) : Lq G d M_212 (127, [some (.ref 0), some (.int x1), some (.int x2), none, some (.int x4), some (.int x5), none, none, none], [], σ) = Lq G d M_212 (129, [some (.ref 0), some (.int x1), some (.int x2), none, some (.int x4), some (.int x5), none, none, none], [.int x4], σ) :=
  (aUn_eq (tkd G.1 G.2) tmi (aRun (tkd G.1 G.2) tmi tmt d) M_212 [] 1 (127, [some (.ref 0), some (.int x1), some (.int x2), none, some (.int x4), some (.int x5), none, none, none], [], σ)).trans rfl
set_option maxRecDepth 20000 in
theorem q_212_2767 (G : Nat × (Nat → Int32)) (d : Nat) (x1 : Int32) (x2 : Int32) (x4 : Int32) (x5 : Int32) (s0 : Int32) (σ : aH) : Lq G d M_212 (129, [some (.ref 0), some (.int x1), some (.int x2), none, some (.int x4), some (.int x5), none, none, none], [.int s0], σ) = some (.inl (some (.int s0)), σ) :=
  (aUn_eq (tkd G.1 G.2) tmi (aRun (tkd G.1 G.2) tmi tmt d) M_212 [] 1 (129, [some (.ref 0), some (.int x1), some (.int x2), none, some (.int x4), some (.int x5), none, none, none], [.int s0], σ)).trans rfl
set_option maxRecDepth 20000 in
theorem q_212_2768 (G : Nat × (Nat → Int32)) (d : Nat) (x1 : Int32) (x2 : Int32) (x4 : Int32) (x5 : Int32) (σ : aH) : Lq G d M_212 (13, [some (.ref 0), some (.int x1), some (.int x2), none, some (.int x4), some (.int x5), none, none, none], [], σ) = Lq G d M_212 (17, [some (.ref 0), some (.int x1), some (.int x2), none, some (.int x4), some (.int x5), none, none, none], [.int (12 : Int32), .int x5], σ) :=
  (aUn_eq (tkd G.1 G.2) tmi (aRun (tkd G.1 G.2) tmi tmt d) M_212 [] 2 (13, [some (.ref 0), some (.int x1), some (.int x2), none, some (.int x4), some (.int x5), none, none, none], [], σ)).trans rfl
set_option maxRecDepth 20000 in
theorem q_212_2769 (G : Nat × (Nat → Int32)) (d : Nat) (x1 : Int32) (x2 : Int32) (x4 : Int32) (x5 : Int32) (s0 : Int32) (s1 : Int32) (σ : aH) : Lq G d M_212 (17, [some (.ref 0), some (.int x1), some (.int x2), none, some (.int x4), some (.int x5), none, none, none], [.int s0, .int s1], σ) = if s0 ≤ s1 then Lq G d M_212 (33, [some (.ref 0), some (.int x1), some (.int x2), none, some (.int x4), some (.int x5), none, none, none], [], σ) else Lq G d M_212 (20, [some (.ref 0), some (.int x1), some (.int x2), none, some (.int x4), some (.int x5), none, none, none], [], σ) :=
  (aUn_eq (tkd G.1 G.2) tmi (aRun (tkd G.1 G.2) tmi tmt d) M_212 [] 1 (17, [some (.ref 0), some (.int x1), some (.int x2), none, some (.int x4), some (.int x5), none, none, none], [.int s0, .int s1], σ)).trans rfl
set_option maxRecDepth 20000 in
theorem q_212_2770 (G : Nat × (Nat → Int32)) (d : Nat) (x1 : Int32) (x2 : Int32) (x4 : Int32) (x5 : Int32) (σ : aH) : Lq G d M_212 (33, [some (.ref 0), some (.int x1), some (.int x2), none, some (.int x4), some (.int x5), none, none, none], [], σ) = Lq G d M_212 (48, [some (.ref 0), some (.int x1), some (.int x2), none, some (.int ((x4 * (1103515245 : Int32)) + (12345 : Int32))), some (.int x5), none, none, none], [.int x2, .int x5], σ) :=
  (aUn_eq (tkd G.1 G.2) tmi (aRun (tkd G.1 G.2) tmi tmt d) M_212 [] 8 (33, [some (.ref 0), some (.int x1), some (.int x2), none, some (.int x4), some (.int x5), none, none, none], [], σ)).trans rfl
set_option maxRecDepth 20000 in
theorem q_212_2771 (G : Nat × (Nat → Int32)) (d : Nat) (x1 : Int32) (x2 : Int32) (x4 : Int32) (x5 : Int32) (s0 : Int32) (s1 : Int32) (σ : aH) : Lq G d M_212 (48, [some (.ref 0), some (.int x1), some (.int x2), none, some (.int x4), some (.int x5), none, none, none], [.int s0, .int s1], σ) = aCI (Rn G d 213 [.int s1, .int s0] σ) fun v2 σ1 => Lq G d M_212 (51, [some (.ref 0), some (.int x1), some (.int x2), none, some (.int x4), some (.int x5), none, none, none], [.int v2], σ1) :=
  (aUn_eq (tkd G.1 G.2) tmi (aRun (tkd G.1 G.2) tmi tmt d) M_212 [] 1 (48, [some (.ref 0), some (.int x1), some (.int x2), none, some (.int x4), some (.int x5), none, none, none], [.int s0, .int s1], σ)).trans rfl
set_option maxRecDepth 20000 in
theorem q_212_2772 (G : Nat × (Nat → Int32)) (d : Nat) (x1 : Int32) (x2 : Int32) (x4 : Int32) (x5 : Int32) (s0 : Int32) (σ : aH) : Lq G d M_212 (51, [some (.ref 0), some (.int x1), some (.int x2), none, some (.int x4), some (.int x5), none, none, none], [.int s0], σ) = Lq G d M_212 (62, [some (.ref 0), some (.int x1), some (.int x2), none, some (.int x4), some (.int x5), some (.int s0), none, none], [.int ((s0 + s0) + (1 : Int32)), .int x4], σ) :=
  (aUn_eq (tkd G.1 G.2) tmi (aRun (tkd G.1 G.2) tmi tmt d) M_212 [] 7 (51, [some (.ref 0), some (.int x1), some (.int x2), none, some (.int x4), some (.int x5), none, none, none], [.int s0], σ)).trans rfl
set_option maxRecDepth 20000 in
theorem q_212_2773 (G : Nat × (Nat → Int32)) (d : Nat) (x1 : Int32) (x2 : Int32) (x4 : Int32) (x5 : Int32) (x6 : Int32) (s0 : Int32) (s1 : Int32) (σ : aH) : Lq G d M_212 (62, [some (.ref 0), some (.int x1), some (.int x2), none, some (.int x4), some (.int x5), some (.int x6), none, none], [.int s0, .int s1], σ) = aCI (Rn G d 214 [.int s1, .int s0] σ) fun v2 σ1 => Lq G d M_212 (65, [some (.ref 0), some (.int x1), some (.int x2), none, some (.int x4), some (.int x5), some (.int x6), none, none], [.int v2], σ1) :=
  (aUn_eq (tkd G.1 G.2) tmi (aRun (tkd G.1 G.2) tmi tmt d) M_212 [] 1 (62, [some (.ref 0), some (.int x1), some (.int x2), none, some (.int x4), some (.int x5), some (.int x6), none, none], [.int s0, .int s1], σ)).trans rfl
set_option maxRecDepth 20000 in
theorem q_212_2774 (G : Nat × (Nat → Int32)) (d : Nat) (x1 : Int32) (x2 : Int32) (x4 : Int32) (x5 : Int32) (x6 : Int32) (s0 : Int32) (σ : aH) : Lq G d M_212 (65, [some (.ref 0), some (.int x1), some (.int x2), none, some (.int x4), some (.int x5), some (.int x6), none, none], [.int s0], σ) = Lq G d M_212 (82, [some (.ref 0), some (.int x1), some (.int x2), none, some (.int x4), some (.int x5), some (.int x6), some (.int (s0 - x6)), none], [.int x5, .ref 3, .int x5, .ref 24], σ) :=
  (aUn_eq (tkd G.1 G.2) tmi (aRun (tkd G.1 G.2) tmi tmt d) M_212 [] 9 (65, [some (.ref 0), some (.int x1), some (.int x2), none, some (.int x4), some (.int x5), some (.int x6), none, none], [.int s0], σ)).trans rfl
set_option maxRecDepth 20000 in
theorem q_212_2775 (G : Nat × (Nat → Int32)) (d : Nat) (x1 : Int32) (x2 : Int32) (x4 : Int32) (x5 : Int32) (x6 : Int32) (x7 : Int32) (s0 : Int32) (s2 : Int32) (σ : aH) : Lq G d M_212 (82, [some (.ref 0), some (.int x1), some (.int x2), none, some (.int x4), some (.int x5), some (.int x6), some (.int x7), none], [.int s0, .ref 3, .int s2, .ref 24], σ) = aCI (Rn G d 118 [.ref 3, .int s0] σ) fun v2 σ1 => Lq G d M_212 (85, [some (.ref 0), some (.int x1), some (.int x2), none, some (.int x4), some (.int x5), some (.int x6), some (.int x7), none], [.int v2, .int s2, .ref 24], σ1) :=
  (aUn_eq (tkd G.1 G.2) tmi (aRun (tkd G.1 G.2) tmi tmt d) M_212 [] 1 (82, [some (.ref 0), some (.int x1), some (.int x2), none, some (.int x4), some (.int x5), some (.int x6), some (.int x7), none], [.int s0, .ref 3, .int s2, .ref 24], σ)).trans rfl
set_option maxRecDepth 20000 in
theorem q_212_2776 (G : Nat × (Nat → Int32)) (d : Nat) (x1 : Int32) (x2 : Int32) (x4 : Int32) (x5 : Int32) (x6 : Int32) (x7 : Int32) (s0 : Int32) (s1 : Int32) (σ : aH) : Lq G d M_212 (85, [some (.ref 0), some (.int x1), some (.int x2), none, some (.int x4), some (.int x5), some (.int x6), some (.int x7), none], [.int s0, .int s1, .ref 24], σ) = aCI (Rn G d 185 [.ref 24, .int s1, .int s0] σ) fun v2 σ1 => Lq G d M_212 (88, [some (.ref 0), some (.int x1), some (.int x2), none, some (.int x4), some (.int x5), some (.int x6), some (.int x7), none], [.int v2], σ1) :=
  (aUn_eq (tkd G.1 G.2) tmi (aRun (tkd G.1 G.2) tmi tmt d) M_212 [] 1 (85, [some (.ref 0), some (.int x1), some (.int x2), none, some (.int x4), some (.int x5), some (.int x6), some (.int x7), none], [.int s0, .int s1, .ref 24], σ)).trans rfl
set_option maxRecDepth 20000 in
theorem q_212_2777 (G : Nat × (Nat → Int32)) (d : Nat) (x1 : Int32) (x2 : Int32) (x4 : Int32) (x5 : Int32) (x6 : Int32) (x7 : Int32) (s0 : Int32) (σ : aH) : Lq G d M_212 (88, [some (.ref 0), some (.int x1), some (.int x2), none, some (.int x4), some (.int x5), some (.int x6), some (.int x7), none], [.int s0], σ) = Lq G d M_212 (102, [some (.ref 0), some (.int x1), some (.int x2), none, some (.int x4), some (.int x5), some (.int x6), some (.int x7), some (.int (s0 + x7))], [.int x5, .int x5, .int x1, .ref 13], σ) :=
  (aUn_eq (tkd G.1 G.2) tmi (aRun (tkd G.1 G.2) tmi tmt d) M_212 [] 8 (88, [some (.ref 0), some (.int x1), some (.int x2), none, some (.int x4), some (.int x5), some (.int x6), some (.int x7), none], [.int s0], σ)).trans rfl
set_option maxRecDepth 20000 in
theorem q_212_2778 (G : Nat × (Nat → Int32)) (d : Nat) (x1 : Int32) (x2 : Int32) (x4 : Int32) (x5 : Int32) (x6 : Int32) (x7 : Int32) (x8 : Int32) (s0 : Int32) (s1 : Int32) (s2 : Int32) (σ : aH) : Lq G d M_212 (102, [some (.ref 0), some (.int x1), some (.int x2), none, some (.int x4), some (.int x5), some (.int x6), some (.int x7), some (.int x8)], [.int s0, .int s1, .int s2, .ref 13], σ) = aCI (Rn G d 199 [.int s0] σ) fun v2 σ1 => Lq G d M_212 (105, [some (.ref 0), some (.int x1), some (.int x2), none, some (.int x4), some (.int x5), some (.int x6), some (.int x7), some (.int x8)], [.int v2, .int s1, .int s2, .ref 13], σ1) :=
  (aUn_eq (tkd G.1 G.2) tmi (aRun (tkd G.1 G.2) tmi tmt d) M_212 [] 1 (102, [some (.ref 0), some (.int x1), some (.int x2), none, some (.int x4), some (.int x5), some (.int x6), some (.int x7), some (.int x8)], [.int s0, .int s1, .int s2, .ref 13], σ)).trans rfl
set_option maxRecDepth 20000 in
theorem q_212_2779 (G : Nat × (Nat → Int32)) (d : Nat) (x1 : Int32) (x2 : Int32) (x4 : Int32) (x5 : Int32) (x6 : Int32) (x7 : Int32) (x8 : Int32) (s0 : Int32) (s1 : Int32) (s2 : Int32) (σ : aH) : Lq G d M_212 (105, [some (.ref 0), some (.int x1), some (.int x2), none, some (.int x4), some (.int x5), some (.int x6), some (.int x7), some (.int x8)], [.int s0, .int s1, .int s2, .ref 13], σ) = Lq G d M_212 (107, [some (.ref 0), some (.int x1), some (.int x2), none, some (.int x4), some (.int x5), some (.int x6), some (.int x7), some (.int x8)], [.int x5, .int s0, .int s1, .int s2, .ref 13], σ) :=
  (aUn_eq (tkd G.1 G.2) tmi (aRun (tkd G.1 G.2) tmi tmt d) M_212 [] 1 (105, [some (.ref 0), some (.int x1), some (.int x2), none, some (.int x4), some (.int x5), some (.int x6), some (.int x7), some (.int x8)], [.int s0, .int s1, .int s2, .ref 13], σ)).trans rfl
set_option maxRecDepth 20000 in
theorem q_212_2780 (G : Nat × (Nat → Int32)) (d : Nat) (x1 : Int32) (x2 : Int32) (x4 : Int32) (x5 : Int32) (x6 : Int32) (x7 : Int32) (x8 : Int32) (s0 : Int32) (s1 : Int32) (s2 : Int32) (s3 : Int32) (σ : aH) : Lq G d M_212 (107, [some (.ref 0), some (.int x1), some (.int x2), none, some (.int x4), some (.int x5), some (.int x6), some (.int x7), some (.int x8)], [.int s0, .int s1, .int s2, .int s3, .ref 13], σ) = aCI (Rn G d 104 [.int s0] σ) fun v2 σ1 => Lq G d M_212 (110, [some (.ref 0), some (.int x1), some (.int x2), none, some (.int x4), some (.int x5), some (.int x6), some (.int x7), some (.int x8)], [.int v2, .int s1, .int s2, .int s3, .ref 13], σ1) :=
  (aUn_eq (tkd G.1 G.2) tmi (aRun (tkd G.1 G.2) tmi tmt d) M_212 [] 1 (107, [some (.ref 0), some (.int x1), some (.int x2), none, some (.int x4), some (.int x5), some (.int x6), some (.int x7), some (.int x8)], [.int s0, .int s1, .int s2, .int s3, .ref 13], σ)).trans rfl
set_option maxRecDepth 20000 in
theorem q_212_2781 (G : Nat × (Nat → Int32)) (d : Nat) (x1 : Int32) (x2 : Int32) (x4 : Int32) (x5 : Int32) (x6 : Int32) (x7 : Int32) (x8 : Int32) (s0 : Int32) (s1 : Int32) (s2 : Int32) (s3 : Int32) (σ : aH) : Lq G d M_212 (110, [some (.ref 0), some (.int x1), some (.int x2), none, some (.int x4), some (.int x5), some (.int x6), some (.int x7), some (.int x8)], [.int s0, .int s1, .int s2, .int s3, .ref 13], σ) = Lq G d M_212 (112, [some (.ref 0), some (.int x1), some (.int x2), none, some (.int x4), some (.int x5), some (.int x6), some (.int x7), some (.int x8)], [.int x8, .int s0, .int s1, .int s2, .int s3, .ref 13], σ) :=
  (aUn_eq (tkd G.1 G.2) tmi (aRun (tkd G.1 G.2) tmi tmt d) M_212 [] 1 (110, [some (.ref 0), some (.int x1), some (.int x2), none, some (.int x4), some (.int x5), some (.int x6), some (.int x7), some (.int x8)], [.int s0, .int s1, .int s2, .int s3, .ref 13], σ)).trans rfl
set_option maxRecDepth 20000 in
theorem q_212_2782 (G : Nat × (Nat → Int32)) (d : Nat) (x1 : Int32) (x2 : Int32) (x4 : Int32) (x5 : Int32) (x6 : Int32) (x7 : Int32) (x8 : Int32) (s0 : Int32) (s1 : Int32) (s2 : Int32) (s3 : Int32) (s4 : Int32) (σ : aH) : Lq G d M_212 (112, [some (.ref 0), some (.int x1), some (.int x2), none, some (.int x4), some (.int x5), some (.int x6), some (.int x7), some (.int x8)], [.int s0, .int s1, .int s2, .int s3, .int s4, .ref 13], σ) = aCI (Rn G d 20 [.int s1, .int s0] σ) fun v2 σ1 => Lq G d M_212 (115, [some (.ref 0), some (.int x1), some (.int x2), none, some (.int x4), some (.int x5), some (.int x6), some (.int x7), some (.int x8)], [.int v2, .int s2, .int s3, .int s4, .ref 13], σ1) :=
  (aUn_eq (tkd G.1 G.2) tmi (aRun (tkd G.1 G.2) tmi tmt d) M_212 [] 1 (112, [some (.ref 0), some (.int x1), some (.int x2), none, some (.int x4), some (.int x5), some (.int x6), some (.int x7), some (.int x8)], [.int s0, .int s1, .int s2, .int s3, .int s4, .ref 13], σ)).trans rfl
set_option maxRecDepth 20000 in
theorem q_212_2783 (G : Nat × (Nat → Int32)) (d : Nat) (x1 : Int32) (x2 : Int32) (x4 : Int32) (x5 : Int32) (x6 : Int32) (x7 : Int32) (x8 : Int32) (s0 : Int32) (s1 : Int32) (s2 : Int32) (s3 : Int32) (σ : aH) : Lq G d M_212 (115, [some (.ref 0), some (.int x1), some (.int x2), none, some (.int x4), some (.int x5), some (.int x6), some (.int x7), some (.int x8)], [.int s0, .int s1, .int s2, .int s3, .ref 13], σ) = aCI (Rn G d 19 [.int s1, .int s0] σ) fun v2 σ1 => Lq G d M_212 (118, [some (.ref 0), some (.int x1), some (.int x2), none, some (.int x4), some (.int x5), some (.int x6), some (.int x7), some (.int x8)], [.int v2, .int s2, .int s3, .ref 13], σ1) :=
  (aUn_eq (tkd G.1 G.2) tmi (aRun (tkd G.1 G.2) tmi tmt d) M_212 [] 1 (115, [some (.ref 0), some (.int x1), some (.int x2), none, some (.int x4), some (.int x5), some (.int x6), some (.int x7), some (.int x8)], [.int s0, .int s1, .int s2, .int s3, .ref 13], σ)).trans rfl
set_option maxRecDepth 20000 in
theorem q_212_2784 (G : Nat × (Nat → Int32)) (d : Nat) (x1 : Int32) (x2 : Int32) (x4 : Int32) (x5 : Int32) (x6 : Int32) (x7 : Int32) (x8 : Int32) (s0 : Int32) (s1 : Int32) (s2 : Int32) (σ : aH) : Lq G d M_212 (118, [some (.ref 0), some (.int x1), some (.int x2), none, some (.int x4), some (.int x5), some (.int x6), some (.int x7), some (.int x8)], [.int s0, .int s1, .int s2, .ref 13], σ) = aCV (Rn G d 101 [.ref 13, .int s2, .int s1, .int s0] σ) fun σ1 => Lq G d M_212 (121, [some (.ref 0), some (.int x1), some (.int x2), none, some (.int x4), some (.int x5), some (.int x6), some (.int x7), some (.int x8)], [], σ1) :=
  (aUn_eq (tkd G.1 G.2) tmi (aRun (tkd G.1 G.2) tmi tmt d) M_212 [] 1 (118, [some (.ref 0), some (.int x1), some (.int x2), none, some (.int x4), some (.int x5), some (.int x6), some (.int x7), some (.int x8)], [.int s0, .int s1, .int s2, .ref 13], σ)).trans rfl
set_option maxRecDepth 20000 in
theorem q_212_2785 (G : Nat × (Nat → Int32)) (d : Nat) (x1 : Int32) (x2 : Int32) (x4 : Int32) (x5 : Int32) (x6 : Int32) (x7 : Int32) (x8 : Int32) (σ : aH) : Lq G d M_212 (121, [some (.ref 0), some (.int x1), some (.int x2), none, some (.int x4), some (.int x5), some (.int x6), some (.int x7), some (.int x8)], [], σ) = Lq G d M_212 (6, [some (.ref 0), some (.int x1), some (.int x2), none, some (.int x4), some (.int (x5 + (1 : Int32))), none, none, none], [], σ) :=
  (aUn_eq (tkd G.1 G.2) tmi (aRun (tkd G.1 G.2) tmi tmt d) M_212 [] 2 (121, [some (.ref 0), some (.int x1), some (.int x2), none, some (.int x4), some (.int x5), some (.int x6), some (.int x7), some (.int x8)], [], σ)).trans rfl
set_option maxRecDepth 20000 in
theorem q_212_2786 (G : Nat × (Nat → Int32)) (d : Nat) (x1 : Int32) (x2 : Int32) (x4 : Int32) (x5 : Int32) (σ : aH) : Lq G d M_212 (20, [some (.ref 0), some (.int x1), some (.int x2), none, some (.int x4), some (.int x5), none, none, none], [], σ) = Lq G d M_212 (27, [some (.ref 0), some (.int x1), some (.int x2), none, some (.int x4), some (.int x5), none, none, none], [.int x5, .int (3 : Int32), .ref 3], σ) :=
  (aUn_eq (tkd G.1 G.2) tmi (aRun (tkd G.1 G.2) tmi tmt d) M_212 [] 4 (20, [some (.ref 0), some (.int x1), some (.int x2), none, some (.int x4), some (.int x5), none, none, none], [], σ)).trans rfl
set_option maxRecDepth 20000 in
theorem q_212_2787 (G : Nat × (Nat → Int32)) (d : Nat) (x1 : Int32) (x2 : Int32) (x4 : Int32) (x5 : Int32) (s0 : Int32) (s1 : Int32) (σ : aH) : Lq G d M_212 (27, [some (.ref 0), some (.int x1), some (.int x2), none, some (.int x4), some (.int x5), none, none, none], [.int s0, .int s1, .ref 3], σ) = aCI (Rn G d 103 [.ref 3, .int s1, .int s0] σ) fun v2 σ1 => Lq G d M_212 (30, [some (.ref 0), some (.int x1), some (.int x2), none, some (.int x4), some (.int x5), none, none, none], [.int v2], σ1) :=
  (aUn_eq (tkd G.1 G.2) tmi (aRun (tkd G.1 G.2) tmi tmt d) M_212 [] 1 (27, [some (.ref 0), some (.int x1), some (.int x2), none, some (.int x4), some (.int x5), none, none, none], [.int s0, .int s1, .ref 3], σ)).trans rfl
set_option maxRecDepth 20000 in
theorem q_212_2788 (G : Nat × (Nat → Int32)) (d : Nat) (x1 : Int32) (x2 : Int32) (x4 : Int32) (x5 : Int32) (s0 : Int32) (σ : aH) : Lq G d M_212 (30, [some (.ref 0), some (.int x1), some (.int x2), none, some (.int x4), some (.int x5), none, none, none], [.int s0], σ) = if s0 = 0 then Lq G d M_212 (121, [some (.ref 0), some (.int x1), some (.int x2), none, some (.int x4), some (.int x5), none, none, none], [], σ) else Lq G d M_212 (33, [some (.ref 0), some (.int x1), some (.int x2), none, some (.int x4), some (.int x5), none, none, none], [], σ) :=
  (aUn_eq (tkd G.1 G.2) tmi (aRun (tkd G.1 G.2) tmi tmt d) M_212 [] 1 (30, [some (.ref 0), some (.int x1), some (.int x2), none, some (.int x4), some (.int x5), none, none, none], [.int s0], σ)).trans rfl
set_option maxRecDepth 20000 in
theorem q_212_2789 (G : Nat × (Nat → Int32)) (d : Nat) (x1 : Int32) (x2 : Int32) (x4 : Int32) (x5 : Int32) (σ : aH) : Lq G d M_212 (121, [some (.ref 0), some (.int x1), some (.int x2), none, some (.int x4), some (.int x5), none, none, none], [], σ) = Lq G d M_212 (6, [some (.ref 0), some (.int x1), some (.int x2), none, some (.int x4), some (.int (x5 + (1 : Int32))), none, none, none], [], σ) :=
  (aUn_eq (tkd G.1 G.2) tmi (aRun (tkd G.1 G.2) tmi tmt d) M_212 [] 2 (121, [some (.ref 0), some (.int x1), some (.int x2), none, some (.int x4), some (.int x5), none, none, none], [], σ)).trans rfl
set_option maxRecDepth 20000 in
theorem q_168_2790 (G : Nat × (Nat → Int32)) (d : Nat) (x1 : Int32) (x2 : Int32) (σ : aH) : Lq G d M_168 (0, [some (.ref 33), some (.int x1), some (.int x2), none], [], σ) = Lq G d M_168 (2, [some (.ref 33), some (.int x1), some (.int x2), some (.int (0 : Int32))], [], σ) :=
  (aUn_eq (tkd G.1 G.2) tmi (aRun (tkd G.1 G.2) tmi tmt d) M_168 [] 2 (0, [some (.ref 33), some (.int x1), some (.int x2), none], [], σ)).trans rfl
set_option maxRecDepth 20000 in
theorem q_168_2791 (G : Nat × (Nat → Int32)) (d : Nat) (x1 : Int32) (x2 : Int32) (x3 : Int32) (σ : aH) : Lq G d M_168 (2, [some (.ref 33), some (.int x1), some (.int x2), some (.int x3)], [], σ) = Lq G d M_168 (5, [some (.ref 33), some (.int x1), some (.int x2), some (.int x3)], [.int (6 : Int32), .int x3], σ) :=
  (aUn_eq (tkd G.1 G.2) tmi (aRun (tkd G.1 G.2) tmi tmt d) M_168 [] 2 (2, [some (.ref 33), some (.int x1), some (.int x2), some (.int x3)], [], σ)).trans rfl
set_option maxRecDepth 20000 in
theorem q_168_2792 (G : Nat × (Nat → Int32)) (d : Nat) (x1 : Int32) (x2 : Int32) (x3 : Int32) (s0 : Int32) (s1 : Int32) (σ : aH) : Lq G d M_168 (5, [some (.ref 33), some (.int x1), some (.int x2), some (.int x3)], [.int s0, .int s1], σ) = if s0 ≤ s1 then Lq G d M_168 (48, [some (.ref 33), some (.int x1), some (.int x2), some (.int x3)], [], σ) else Lq G d M_168 (8, [some (.ref 33), some (.int x1), some (.int x2), some (.int x3)], [], σ) :=
  (aUn_eq (tkd G.1 G.2) tmi (aRun (tkd G.1 G.2) tmi tmt d) M_168 [] 1 (5, [some (.ref 33), some (.int x1), some (.int x2), some (.int x3)], [.int s0, .int s1], σ)).trans rfl
set_option maxRecDepth 20000 in
theorem q_168_2793 (G : Nat × (Nat → Int32)) (d : Nat) (x1 : Int32) (x2 : Int32) (x3 : Int32) (σ : aH) : Lq G d M_168 (48, [some (.ref 33), some (.int x1), some (.int x2), some (.int x3)], [], σ) = some (.inl none, σ) :=
  (aUn_eq (tkd G.1 G.2) tmi (aRun (tkd G.1 G.2) tmi tmt d) M_168 [] 1 (48, [some (.ref 33), some (.int x1), some (.int x2), some (.int x3)], [], σ)).trans rfl
set_option maxRecDepth 20000 in
theorem q_168_2794 (G : Nat × (Nat → Int32)) (d : Nat) (x1 : Int32) (x2 : Int32) (x3 : Int32) (σ : aH) : Lq G d M_168 (8, [some (.ref 33), some (.int x1), some (.int x2), some (.int x3)], [], σ) = Lq G d M_168 (23, [some (.ref 33), some (.int x1), some (.int x2), some (.int x3)], [.int (((6 : Int32) * x1) + x3), .ref 34, .int x3, .ref 50], σ) :=
  (aUn_eq (tkd G.1 G.2) tmi (aRun (tkd G.1 G.2) tmi tmt d) M_168 [] 10 (8, [some (.ref 33), some (.int x1), some (.int x2), some (.int x3)], [], σ)).trans rfl
set_option maxRecDepth 20000 in
theorem q_168_2795 (G : Nat × (Nat → Int32)) (d : Nat) (x1 : Int32) (x2 : Int32) (x3 : Int32) (s0 : Int32) (s2 : Int32) (σ : aH) : Lq G d M_168 (23, [some (.ref 33), some (.int x1), some (.int x2), some (.int x3)], [.int s0, .ref 34, .int s2, .ref 50], σ) = aIx (s0) 120 fun j1 => Lq G d M_168 (24, [some (.ref 33), some (.int x1), some (.int x2), some (.int x3)], [.int (σ.1 34 j1), .int s2, .ref 50], σ) :=
  (aUn_eq (tkd G.1 G.2) tmi (aRun (tkd G.1 G.2) tmi tmt d) M_168 [] 1 (23, [some (.ref 33), some (.int x1), some (.int x2), some (.int x3)], [.int s0, .ref 34, .int s2, .ref 50], σ)).trans rfl
set_option maxRecDepth 20000 in
theorem q_168_2796 (G : Nat × (Nat → Int32)) (d : Nat) (x1 : Int32) (x2 : Int32) (x3 : Int32) (s0 : Int32) (s1 : Int32) (σ : aH) : Lq G d M_168 (24, [some (.ref 33), some (.int x1), some (.int x2), some (.int x3)], [.int s0, .int s1, .ref 50], σ) = aIx (s1) 6 fun j1 => Lq G d M_168 (25, [some (.ref 33), some (.int x1), some (.int x2), some (.int x3)], [], (aSI σ 50 j1 s0)) :=
  (aUn_eq (tkd G.1 G.2) tmi (aRun (tkd G.1 G.2) tmi tmt d) M_168 [] 1 (24, [some (.ref 33), some (.int x1), some (.int x2), some (.int x3)], [.int s0, .int s1, .ref 50], σ)).trans rfl
set_option maxRecDepth 20000 in
theorem q_168_2797 (G : Nat × (Nat → Int32)) (d : Nat) (x1 : Int32) (x2 : Int32) (x3 : Int32) (σ : aH) : Lq G d M_168 (25, [some (.ref 33), some (.int x1), some (.int x2), some (.int x3)], [], σ) = Lq G d M_168 (40, [some (.ref 33), some (.int x1), some (.int x2), some (.int x3)], [.int (((6 : Int32) * x2) + x3), .ref 35, .int x3, .ref 51], σ) :=
  (aUn_eq (tkd G.1 G.2) tmi (aRun (tkd G.1 G.2) tmi tmt d) M_168 [] 10 (25, [some (.ref 33), some (.int x1), some (.int x2), some (.int x3)], [], σ)).trans rfl
set_option maxRecDepth 20000 in
theorem q_168_2798 (G : Nat × (Nat → Int32)) (d : Nat) (x1 : Int32) (x2 : Int32) (x3 : Int32) (s0 : Int32) (s2 : Int32) (σ : aH) : Lq G d M_168 (40, [some (.ref 33), some (.int x1), some (.int x2), some (.int x3)], [.int s0, .ref 35, .int s2, .ref 51], σ) = aIx (s0) 120 fun j1 => Lq G d M_168 (41, [some (.ref 33), some (.int x1), some (.int x2), some (.int x3)], [.int (σ.1 35 j1), .int s2, .ref 51], σ) :=
  (aUn_eq (tkd G.1 G.2) tmi (aRun (tkd G.1 G.2) tmi tmt d) M_168 [] 1 (40, [some (.ref 33), some (.int x1), some (.int x2), some (.int x3)], [.int s0, .ref 35, .int s2, .ref 51], σ)).trans rfl
set_option maxRecDepth 20000 in
theorem q_168_2799 (G : Nat × (Nat → Int32)) (d : Nat) (x1 : Int32) (x2 : Int32) (x3 : Int32) (s0 : Int32) (s1 : Int32) (σ : aH) : Lq G d M_168 (41, [some (.ref 33), some (.int x1), some (.int x2), some (.int x3)], [.int s0, .int s1, .ref 51], σ) = aIx (s1) 6 fun j1 => Lq G d M_168 (42, [some (.ref 33), some (.int x1), some (.int x2), some (.int x3)], [], (aSI σ 51 j1 s0)) :=
  (aUn_eq (tkd G.1 G.2) tmi (aRun (tkd G.1 G.2) tmi tmt d) M_168 [] 1 (41, [some (.ref 33), some (.int x1), some (.int x2), some (.int x3)], [.int s0, .int s1, .ref 51], σ)).trans rfl
set_option maxRecDepth 20000 in
theorem q_168_2800 (G : Nat × (Nat → Int32)) (d : Nat) (x1 : Int32) (x2 : Int32) (x3 : Int32) (σ : aH) : Lq G d M_168 (42, [some (.ref 33), some (.int x1), some (.int x2), some (.int x3)], [], σ) = Lq G d M_168 (2, [some (.ref 33), some (.int x1), some (.int x2), some (.int (x3 + (1 : Int32)))], [], σ) :=
  (aUn_eq (tkd G.1 G.2) tmi (aRun (tkd G.1 G.2) tmi tmt d) M_168 [] 2 (42, [some (.ref 33), some (.int x1), some (.int x2), some (.int x3)], [], σ)).trans rfl
set_option maxRecDepth 20000 in
theorem q_216_2801 (G : Nat × (Nat → Int32)) (d : Nat) (x1 : Int32) (σ : aH) : Lq G d M_216 (0, [some (.ref 33), some (.int x1)], [], σ) = Lq G d M_216 (28, [some (.ref 33), some (.int x1)], [.int x1, .int (((((σ.1 33 48) * (1103515245 : Int32)) + (12345 : Int32)) >>> ((16 : Int32) &&& 31)) &&& (32767 : Int32))], (aSI σ 33 48 (((σ.1 33 48) * (1103515245 : Int32)) + (12345 : Int32)))) :=
  (aUn_eq (tkd G.1 G.2) tmi (aRun (tkd G.1 G.2) tmi tmt d) M_216 [] 15 (0, [some (.ref 33), some (.int x1)], [], σ)).trans rfl
set_option maxRecDepth 20000 in
theorem q_216_2802 (G : Nat × (Nat → Int32)) (d : Nat) (x1 : Int32) (s0 : Int32) (s1 : Int32) (σ : aH) : Lq G d M_216 (28, [some (.ref 33), some (.int x1)], [.int s0, .int s1], σ) = aNz (s0) (Lq G d M_216 (29, [some (.ref 33), some (.int x1)], [.int (s1 - s1 / s0 * s0)], σ)) :=
  (aUn_eq (tkd G.1 G.2) tmi (aRun (tkd G.1 G.2) tmi tmt d) M_216 [] 1 (28, [some (.ref 33), some (.int x1)], [.int s0, .int s1], σ)).trans rfl
set_option maxRecDepth 20000 in
theorem q_216_2803 (G : Nat × (Nat → Int32)) (d : Nat) (x1 : Int32) (s0 : Int32) (σ : aH) : Lq G d M_216 (29, [some (.ref 33), some (.int x1)], [.int s0], σ) = some (.inl (some (.int s0)), σ) :=
  (aUn_eq (tkd G.1 G.2) tmi (aRun (tkd G.1 G.2) tmi tmt d) M_216 [] 1 (29, [some (.ref 33), some (.int x1)], [.int s0], σ)).trans rfl
set_option maxRecDepth 20000 in
theorem q_217_2804 (G : Nat × (Nat → Int32)) (d : Nat) (x0 : Int32) (x1 : Int32) (σ : aH) : Lq G d M_217 (0, [some (.int x0), some (.int x1)], [], σ) = Lq G d M_217 (2, [some (.int x0), some (.int x1)], [.int x1, .int x0], σ) :=
  (aUn_eq (tkd G.1 G.2) tmi (aRun (tkd G.1 G.2) tmi tmt d) M_217 [] 2 (0, [some (.int x0), some (.int x1)], [], σ)).trans rfl
set_option maxRecDepth 20000 in
theorem q_217_2805 (G : Nat × (Nat → Int32)) (d : Nat) (x0 : Int32) (x1 : Int32) (s0 : Int32) (s1 : Int32) (σ : aH) : Lq G d M_217 (2, [some (.int x0), some (.int x1)], [.int s0, .int s1], σ) = aCI (Rn G d 203 [.int s0] σ) fun v2 σ1 => Lq G d M_217 (5, [some (.int x0), some (.int x1)], [.int v2, .int s1], σ1) :=
  (aUn_eq (tkd G.1 G.2) tmi (aRun (tkd G.1 G.2) tmi tmt d) M_217 [] 1 (2, [some (.int x0), some (.int x1)], [.int s0, .int s1], σ)).trans rfl
set_option maxRecDepth 20000 in
theorem q_217_2806 (G : Nat × (Nat → Int32)) (d : Nat) (x0 : Int32) (x1 : Int32) (s0 : Int32) (s1 : Int32) (σ : aH) : Lq G d M_217 (5, [some (.int x0), some (.int x1)], [.int s0, .int s1], σ) = if s0 ≤ s1 then Lq G d M_217 (15, [some (.int x0), some (.int x1)], [], σ) else Lq G d M_217 (8, [some (.int x0), some (.int x1)], [], σ) :=
  (aUn_eq (tkd G.1 G.2) tmi (aRun (tkd G.1 G.2) tmi tmt d) M_217 [] 1 (5, [some (.int x0), some (.int x1)], [.int s0, .int s1], σ)).trans rfl
set_option maxRecDepth 20000 in
theorem q_217_2807 (G : Nat × (Nat → Int32)) (d : Nat) (x0 : Int32) (x1 : Int32) (σ : aH) : Lq G d M_217 (15, [some (.int x0), some (.int x1)], [], σ) = Lq G d M_217 (17, [some (.int x0), some (.int x1)], [.int x1, .int x0], σ) :=
  (aUn_eq (tkd G.1 G.2) tmi (aRun (tkd G.1 G.2) tmi tmt d) M_217 [] 2 (15, [some (.int x0), some (.int x1)], [], σ)).trans rfl
set_option maxRecDepth 20000 in
theorem q_217_2808 (G : Nat × (Nat → Int32)) (d : Nat) (x0 : Int32) (x1 : Int32) (s0 : Int32) (s1 : Int32) (σ : aH) : Lq G d M_217 (17, [some (.int x0), some (.int x1)], [.int s0, .int s1], σ) = aCI (Rn G d 204 [.int s0] σ) fun v2 σ1 => Lq G d M_217 (20, [some (.int x0), some (.int x1)], [.int v2, .int s1], σ1) :=
  (aUn_eq (tkd G.1 G.2) tmi (aRun (tkd G.1 G.2) tmi tmt d) M_217 [] 1 (17, [some (.int x0), some (.int x1)], [.int s0, .int s1], σ)).trans rfl
set_option maxRecDepth 20000 in
theorem q_217_2809 (G : Nat × (Nat → Int32)) (d : Nat) (x0 : Int32) (x1 : Int32) (s0 : Int32) (s1 : Int32) (σ : aH) : Lq G d M_217 (20, [some (.int x0), some (.int x1)], [.int s0, .int s1], σ) = if s1 ≤ s0 then Lq G d M_217 (30, [some (.int x0), some (.int x1)], [], σ) else Lq G d M_217 (23, [some (.int x0), some (.int x1)], [], σ) :=
  (aUn_eq (tkd G.1 G.2) tmi (aRun (tkd G.1 G.2) tmi tmt d) M_217 [] 1 (20, [some (.int x0), some (.int x1)], [.int s0, .int s1], σ)).trans rfl
set_option maxRecDepth 20000 in
theorem q_217_2810 (G : Nat × (Nat → Int32)) (d : Nat) (x0 : Int32) (x1 : Int32) (σ : aH) : Lq G d M_217 (30, [some (.int x0), some (.int x1)], [], σ) = Lq G d M_217 (31, [some (.int x0), some (.int x1)], [.int x0], σ) :=
  (aUn_eq (tkd G.1 G.2) tmi (aRun (tkd G.1 G.2) tmi tmt d) M_217 [] 1 (30, [some (.int x0), some (.int x1)], [], σ)).trans rfl
set_option maxRecDepth 20000 in
theorem q_217_2811 (G : Nat × (Nat → Int32)) (d : Nat) (x0 : Int32) (x1 : Int32) (s0 : Int32) (σ : aH) : Lq G d M_217 (31, [some (.int x0), some (.int x1)], [.int s0], σ) = some (.inl (some (.int s0)), σ) :=
  (aUn_eq (tkd G.1 G.2) tmi (aRun (tkd G.1 G.2) tmi tmt d) M_217 [] 1 (31, [some (.int x0), some (.int x1)], [.int s0], σ)).trans rfl
set_option maxRecDepth 20000 in
theorem q_217_2812 (G : Nat × (Nat → Int32)) (d : Nat) (x0 : Int32) (x1 : Int32) (σ : aH) : Lq G d M_217 (23, [some (.int x0), some (.int x1)], [], σ) = Lq G d M_217 (24, [some (.int x0), some (.int x1)], [.int x1], σ) :=
  (aUn_eq (tkd G.1 G.2) tmi (aRun (tkd G.1 G.2) tmi tmt d) M_217 [] 1 (23, [some (.int x0), some (.int x1)], [], σ)).trans rfl
set_option maxRecDepth 20000 in
theorem q_217_2813 (G : Nat × (Nat → Int32)) (d : Nat) (x0 : Int32) (x1 : Int32) (s0 : Int32) (σ : aH) : Lq G d M_217 (24, [some (.int x0), some (.int x1)], [.int s0], σ) = aCI (Rn G d 204 [.int s0] σ) fun v2 σ1 => Lq G d M_217 (27, [some (.int x0), some (.int x1)], [.int v2], σ1) :=
  (aUn_eq (tkd G.1 G.2) tmi (aRun (tkd G.1 G.2) tmi tmt d) M_217 [] 1 (24, [some (.int x0), some (.int x1)], [.int s0], σ)).trans rfl
set_option maxRecDepth 20000 in
theorem q_217_2814 (G : Nat × (Nat → Int32)) (d : Nat) (x0 : Int32) (x1 : Int32) (s0 : Int32) (σ : aH) : Lq G d M_217 (27, [some (.int x0), some (.int x1)], [.int s0], σ) = Lq G d M_217 (31, [some (.int x0), some (.int x1)], [.int s0], σ) :=
  (aUn_eq (tkd G.1 G.2) tmi (aRun (tkd G.1 G.2) tmi tmt d) M_217 [] 1 (27, [some (.int x0), some (.int x1)], [.int s0], σ)).trans rfl
set_option maxRecDepth 20000 in
theorem q_217_2815 (G : Nat × (Nat → Int32)) (d : Nat) (x0 : Int32) (x1 : Int32) (σ : aH) : Lq G d M_217 (8, [some (.int x0), some (.int x1)], [], σ) = Lq G d M_217 (9, [some (.int x0), some (.int x1)], [.int x1], σ) :=
  (aUn_eq (tkd G.1 G.2) tmi (aRun (tkd G.1 G.2) tmi tmt d) M_217 [] 1 (8, [some (.int x0), some (.int x1)], [], σ)).trans rfl
set_option maxRecDepth 20000 in
theorem q_217_2816 (G : Nat × (Nat → Int32)) (d : Nat) (x0 : Int32) (x1 : Int32) (s0 : Int32) (σ : aH) : Lq G d M_217 (9, [some (.int x0), some (.int x1)], [.int s0], σ) = aCI (Rn G d 203 [.int s0] σ) fun v2 σ1 => Lq G d M_217 (12, [some (.int x0), some (.int x1)], [.int v2], σ1) :=
  (aUn_eq (tkd G.1 G.2) tmi (aRun (tkd G.1 G.2) tmi tmt d) M_217 [] 1 (9, [some (.int x0), some (.int x1)], [.int s0], σ)).trans rfl
set_option maxRecDepth 20000 in
theorem q_217_2817 (G : Nat × (Nat → Int32)) (d : Nat) (x0 : Int32) (x1 : Int32) (s0 : Int32) (σ : aH) : Lq G d M_217 (12, [some (.int x0), some (.int x1)], [.int s0], σ) = Lq G d M_217 (31, [some (.int x0), some (.int x1)], [.int s0], σ) :=
  (aUn_eq (tkd G.1 G.2) tmi (aRun (tkd G.1 G.2) tmi tmt d) M_217 [] 1 (12, [some (.int x0), some (.int x1)], [.int s0], σ)).trans rfl
set_option maxRecDepth 20000 in
theorem q_24_2818 (G : Nat × (Nat → Int32)) (d : Nat) (rx0 : Nat) (x1 : Int32) (x2 : Int32) (σ : aH) : Lq G d M_24 (0, [some (.ref rx0), some (.int x1), some (.int x2)], [], σ) = Lq G d M_24 (1, [some (.ref rx0), some (.int x1), some (.int x2)], [.int x1], σ) :=
  (aUn_eq (tkd G.1 G.2) tmi (aRun (tkd G.1 G.2) tmi tmt d) M_24 [] 1 (0, [some (.ref rx0), some (.int x1), some (.int x2)], [], σ)).trans rfl
set_option maxRecDepth 20000 in
theorem q_24_2819 (G : Nat × (Nat → Int32)) (d : Nat) (rx0 : Nat) (x1 : Int32) (x2 : Int32) (s0 : Int32) (σ : aH) : Lq G d M_24 (1, [some (.ref rx0), some (.int x1), some (.int x2)], [.int s0], σ) = if s0 < 0 then Lq G d M_24 (14, [some (.ref rx0), some (.int x1), some (.int x2)], [], σ) else Lq G d M_24 (4, [some (.ref rx0), some (.int x1), some (.int x2)], [], σ) :=
  (aUn_eq (tkd G.1 G.2) tmi (aRun (tkd G.1 G.2) tmi tmt d) M_24 [] 1 (1, [some (.ref rx0), some (.int x1), some (.int x2)], [.int s0], σ)).trans rfl
set_option maxRecDepth 20000 in
theorem q_24_2820 (G : Nat × (Nat → Int32)) (d : Nat) (rx0 : Nat) (x1 : Int32) (x2 : Int32) (σ : aH) : Lq G d M_24 (14, [some (.ref rx0), some (.int x1), some (.int x2)], [], σ) = some (.inl none, σ) :=
  (aUn_eq (tkd G.1 G.2) tmi (aRun (tkd G.1 G.2) tmi tmt d) M_24 [] 1 (14, [some (.ref rx0), some (.int x1), some (.int x2)], [], σ)).trans rfl
set_option maxRecDepth 20000 in
theorem q_24_2821 (G : Nat × (Nat → Int32)) (d : Nat) (rx0 : Nat) (x1 : Int32) (x2 : Int32) (σ : aH) : Lq G d M_24 (4, [some (.ref rx0), some (.int x1), some (.int x2)], [], σ) = Lq G d M_24 (6, [some (.ref rx0), some (.int x1), some (.int x2)], [.ref rx0, .int x1], σ) :=
  (aUn_eq (tkd G.1 G.2) tmi (aRun (tkd G.1 G.2) tmi tmt d) M_24 [] 2 (4, [some (.ref rx0), some (.int x1), some (.int x2)], [], σ)).trans rfl
set_option maxRecDepth 20000 in
theorem q_24_2822 (G : Nat × (Nat → Int32)) (d : Nat) (rx0 : Nat) (x1 : Int32) (x2 : Int32) (rs0 : Nat) (s1 : Int32) (σ : aH) : Lq G d M_24 (6, [some (.ref rx0), some (.int x1), some (.int x2)], [.ref rs0, .int s1], σ) = aLen (tkd G.1 G.2) rs0 fun n1 => Lq G d M_24 (7, [some (.ref rx0), some (.int x1), some (.int x2)], [.int (Int32.ofNat n1), .int s1], σ) :=
  (aUn_eq (tkd G.1 G.2) tmi (aRun (tkd G.1 G.2) tmi tmt d) M_24 [] 1 (6, [some (.ref rx0), some (.int x1), some (.int x2)], [.ref rs0, .int s1], σ)).trans rfl
set_option maxRecDepth 20000 in
theorem q_24_2823 (G : Nat × (Nat → Int32)) (d : Nat) (rx0 : Nat) (x1 : Int32) (x2 : Int32) (s0 : Int32) (s1 : Int32) (σ : aH) : Lq G d M_24 (7, [some (.ref rx0), some (.int x1), some (.int x2)], [.int s0, .int s1], σ) = if s0 ≤ s1 then Lq G d M_24 (14, [some (.ref rx0), some (.int x1), some (.int x2)], [], σ) else Lq G d M_24 (10, [some (.ref rx0), some (.int x1), some (.int x2)], [], σ) :=
  (aUn_eq (tkd G.1 G.2) tmi (aRun (tkd G.1 G.2) tmi tmt d) M_24 [] 1 (7, [some (.ref rx0), some (.int x1), some (.int x2)], [.int s0, .int s1], σ)).trans rfl
set_option maxRecDepth 20000 in
theorem q_24_2824 (G : Nat × (Nat → Int32)) (d : Nat) (rx0 : Nat) (x1 : Int32) (x2 : Int32) (σ : aH) : Lq G d M_24 (10, [some (.ref rx0), some (.int x1), some (.int x2)], [], σ) = Lq G d M_24 (13, [some (.ref rx0), some (.int x1), some (.int x2)], [.int x2, .int x1, .ref rx0], σ) :=
  (aUn_eq (tkd G.1 G.2) tmi (aRun (tkd G.1 G.2) tmi tmt d) M_24 [] 3 (10, [some (.ref rx0), some (.int x1), some (.int x2)], [], σ)).trans rfl
set_option maxRecDepth 20000 in
theorem q_24_2825 (G : Nat × (Nat → Int32)) (d : Nat) (rx0 : Nat) (x1 : Int32) (x2 : Int32) (s0 : Int32) (s1 : Int32) (rs2 : Nat) (σ : aH) : Lq G d M_24 (13, [some (.ref rx0), some (.int x1), some (.int x2)], [.int s0, .int s1, .ref rs2], σ) = aArS (tkd G.1 G.2) 0 rs2 fun n2 => aIx (s1) n2 fun j1 => Lq G d M_24 (14, [some (.ref rx0), some (.int x1), some (.int x2)], [], (aSI σ rs2 j1 s0)) :=
  (aUn_eq (tkd G.1 G.2) tmi (aRun (tkd G.1 G.2) tmi tmt d) M_24 [] 1 (13, [some (.ref rx0), some (.int x1), some (.int x2)], [.int s0, .int s1, .ref rs2], σ)).trans rfl
set_option maxRecDepth 20000 in
theorem q_220_2826 (G : Nat × (Nat → Int32)) (d : Nat) (x1 : Int32) (σ : aH) : Lq G d M_220 (0, [some (.ref 17), some (.int x1)], [], σ) = Lq G d M_220 (5, [some (.ref 17), some (.int x1)], [.int x1, .ref 18], σ) :=
  (aUn_eq (tkd G.1 G.2) tmi (aRun (tkd G.1 G.2) tmi tmt d) M_220 [] 3 (0, [some (.ref 17), some (.int x1)], [], σ)).trans rfl
set_option maxRecDepth 20000 in
theorem q_220_2827 (G : Nat × (Nat → Int32)) (d : Nat) (x1 : Int32) (s0 : Int32) (σ : aH) : Lq G d M_220 (5, [some (.ref 17), some (.int x1)], [.int s0, .ref 18], σ) = aCI (Rn G d 32 [.ref 18, .int s0] σ) fun v2 σ1 => Lq G d M_220 (8, [some (.ref 17), some (.int x1)], [.int v2], σ1) :=
  (aUn_eq (tkd G.1 G.2) tmi (aRun (tkd G.1 G.2) tmi tmt d) M_220 [] 1 (5, [some (.ref 17), some (.int x1)], [.int s0, .ref 18], σ)).trans rfl
set_option maxRecDepth 20000 in
theorem q_220_2828 (G : Nat × (Nat → Int32)) (d : Nat) (x1 : Int32) (s0 : Int32) (σ : aH) : Lq G d M_220 (8, [some (.ref 17), some (.int x1)], [.int s0], σ) = Lq G d M_220 (9, [some (.ref 17), some (.int x1)], [.int (-1 : Int32), .int s0], σ) :=
  (aUn_eq (tkd G.1 G.2) tmi (aRun (tkd G.1 G.2) tmi tmt d) M_220 [] 1 (8, [some (.ref 17), some (.int x1)], [.int s0], σ)).trans rfl
set_option maxRecDepth 20000 in
theorem q_220_2829 (G : Nat × (Nat → Int32)) (d : Nat) (x1 : Int32) (s0 : Int32) (s1 : Int32) (σ : aH) : Lq G d M_220 (9, [some (.ref 17), some (.int x1)], [.int s0, .int s1], σ) = if s1 = s0 then Lq G d M_220 (12, [some (.ref 17), some (.int x1)], [], σ) else Lq G d M_220 (16, [some (.ref 17), some (.int x1)], [], σ) :=
  (aUn_eq (tkd G.1 G.2) tmi (aRun (tkd G.1 G.2) tmi tmt d) M_220 [] 1 (9, [some (.ref 17), some (.int x1)], [.int s0, .int s1], σ)).trans rfl
set_option maxRecDepth 20000 in
theorem q_220_2830 (G : Nat × (Nat → Int32)) (d : Nat) (x1 : Int32) (σ : aH) : Lq G d M_220 (12, [some (.ref 17), some (.int x1)], [], σ) = Lq G d M_220 (17, [some (.ref 17), some (.int x1)], [.int (1 : Int32)], σ) :=
  (aUn_eq (tkd G.1 G.2) tmi (aRun (tkd G.1 G.2) tmi tmt d) M_220 [] 2 (12, [some (.ref 17), some (.int x1)], [], σ)).trans rfl
set_option maxRecDepth 20000 in
theorem q_220_2831 (G : Nat × (Nat → Int32)) (d : Nat) (x1 : Int32) (s0 : Int32) (σ : aH) : Lq G d M_220 (17, [some (.ref 17), some (.int x1)], [.int s0], σ) = aNar .boolean (s0) (some (.inl (some (.int s0)), σ)) :=
  (aUn_eq (tkd G.1 G.2) tmi (aRun (tkd G.1 G.2) tmi tmt d) M_220 [] 1 (17, [some (.ref 17), some (.int x1)], [.int s0], σ)).trans rfl
set_option maxRecDepth 20000 in
theorem q_220_2832 (G : Nat × (Nat → Int32)) (d : Nat) (x1 : Int32) (σ : aH) : Lq G d M_220 (16, [some (.ref 17), some (.int x1)], [], σ) = Lq G d M_220 (17, [some (.ref 17), some (.int x1)], [.int (0 : Int32)], σ) :=
  (aUn_eq (tkd G.1 G.2) tmi (aRun (tkd G.1 G.2) tmi tmt d) M_220 [] 1 (16, [some (.ref 17), some (.int x1)], [], σ)).trans rfl
set_option maxRecDepth 20000 in
theorem q_221_2833 (G : Nat × (Nat → Int32)) (d : Nat) (x1 : Int32) (x2 : Int32) (σ : aH) : Lq G d M_221 (0, [some (.ref 0), some (.int x1), some (.int x2), none, none, none], [], σ) = Lq G d M_221 (5, [some (.ref 0), some (.int x1), some (.int x2), some (.long (0 : Int64)), none, some (.int (0 : Int32))], [], σ) :=
  (aUn_eq (tkd G.1 G.2) tmi (aRun (tkd G.1 G.2) tmi tmt d) M_221 [] 4 (0, [some (.ref 0), some (.int x1), some (.int x2), none, none, none], [], σ)).trans rfl
set_option maxRecDepth 20000 in
theorem q_221_2834 (G : Nat × (Nat → Int32)) (d : Nat) (x1 : Int32) (x2 : Int32) (x3 : Int64) (x5 : Int32) (σ : aH) : Lq G d M_221 (5, [some (.ref 0), some (.int x1), some (.int x2), some (.long x3), none, some (.int x5)], [], σ) = Lq G d M_221 (8, [some (.ref 0), some (.int x1), some (.int x2), some (.long x3), none, some (.int x5)], [.int x2, .int x5], σ) :=
  (aUn_eq (tkd G.1 G.2) tmi (aRun (tkd G.1 G.2) tmi tmt d) M_221 [] 2 (5, [some (.ref 0), some (.int x1), some (.int x2), some (.long x3), none, some (.int x5)], [], σ)).trans rfl
set_option maxRecDepth 20000 in
theorem q_221_2835 (G : Nat × (Nat → Int32)) (d : Nat) (x1 : Int32) (x2 : Int32) (x3 : Int64) (x5 : Int32) (s0 : Int32) (s1 : Int32) (σ : aH) : Lq G d M_221 (8, [some (.ref 0), some (.int x1), some (.int x2), some (.long x3), none, some (.int x5)], [.int s0, .int s1], σ) = if s0 ≤ s1 then Lq G d M_221 (57, [some (.ref 0), some (.int x1), some (.int x2), some (.long x3), none, some (.int x5)], [], σ) else Lq G d M_221 (11, [some (.ref 0), some (.int x1), some (.int x2), some (.long x3), none, some (.int x5)], [], σ) :=
  (aUn_eq (tkd G.1 G.2) tmi (aRun (tkd G.1 G.2) tmi tmt d) M_221 [] 1 (8, [some (.ref 0), some (.int x1), some (.int x2), some (.long x3), none, some (.int x5)], [.int s0, .int s1], σ)).trans rfl
set_option maxRecDepth 20000 in
theorem q_221_2836 (G : Nat × (Nat → Int32)) (d : Nat) (x1 : Int32) (x2 : Int32) (x3 : Int64) (x5 : Int32) (σ : aH) : Lq G d M_221 (57, [some (.ref 0), some (.int x1), some (.int x2), some (.long x3), none, some (.int x5)], [], σ) = Lq G d M_221 (60, [some (.ref 0), none, some (.int x2), some (.long x3), none, some (.int (0 : Int32))], [], σ) :=
  (aUn_eq (tkd G.1 G.2) tmi (aRun (tkd G.1 G.2) tmi tmt d) M_221 [] 2 (57, [some (.ref 0), some (.int x1), some (.int x2), some (.long x3), none, some (.int x5)], [], σ)).trans rfl
set_option maxRecDepth 20000 in
theorem q_221_2837 (G : Nat × (Nat → Int32)) (d : Nat) (x1 : Int32) (x2 : Int32) (x3 : Int64) (x5 : Int32) (σ : aH) : Lq G d M_221 (11, [some (.ref 0), some (.int x1), some (.int x2), some (.long x3), none, some (.int x5)], [], σ) = Lq G d M_221 (21, [some (.ref 0), some (.int x1), some (.int x2), some (.long x3), none, some (.int x5)], [.int x5, .int x1, .ref 0, .int x5, .ref 31], σ) :=
  (aUn_eq (tkd G.1 G.2) tmi (aRun (tkd G.1 G.2) tmi tmt d) M_221 [] 6 (11, [some (.ref 0), some (.int x1), some (.int x2), some (.long x3), none, some (.int x5)], [], σ)).trans rfl
set_option maxRecDepth 20000 in
theorem q_221_2838 (G : Nat × (Nat → Int32)) (d : Nat) (x1 : Int32) (x2 : Int32) (x3 : Int64) (x5 : Int32) (s0 : Int32) (s1 : Int32) (s3 : Int32) (σ : aH) : Lq G d M_221 (21, [some (.ref 0), some (.int x1), some (.int x2), some (.long x3), none, some (.int x5)], [.int s0, .int s1, .ref 0, .int s3, .ref 31], σ) = aCI (Rn G d 222 [.ref 0, .int s1, .int s0] σ) fun v2 σ1 => Lq G d M_221 (24, [some (.ref 0), some (.int x1), some (.int x2), some (.long x3), none, some (.int x5)], [.int v2, .int s3, .ref 31], σ1) :=
  (aUn_eq (tkd G.1 G.2) tmi (aRun (tkd G.1 G.2) tmi tmt d) M_221 [] 1 (21, [some (.ref 0), some (.int x1), some (.int x2), some (.long x3), none, some (.int x5)], [.int s0, .int s1, .ref 0, .int s3, .ref 31], σ)).trans rfl
set_option maxRecDepth 20000 in
theorem q_221_2839 (G : Nat × (Nat → Int32)) (d : Nat) (x1 : Int32) (x2 : Int32) (x3 : Int64) (x5 : Int32) (s0 : Int32) (s1 : Int32) (σ : aH) : Lq G d M_221 (24, [some (.ref 0), some (.int x1), some (.int x2), some (.long x3), none, some (.int x5)], [.int s0, .int s1, .ref 31], σ) = aCV (Rn G d 24 [.ref 31, .int s1, .int s0] σ) fun σ1 => Lq G d M_221 (27, [some (.ref 0), some (.int x1), some (.int x2), some (.long x3), none, some (.int x5)], [], σ1) :=
  (aUn_eq (tkd G.1 G.2) tmi (aRun (tkd G.1 G.2) tmi tmt d) M_221 [] 1 (24, [some (.ref 0), some (.int x1), some (.int x2), some (.long x3), none, some (.int x5)], [.int s0, .int s1, .ref 31], σ)).trans rfl
set_option maxRecDepth 20000 in
theorem q_221_2840 (G : Nat × (Nat → Int32)) (d : Nat) (x1 : Int32) (x2 : Int32) (x3 : Int64) (x5 : Int32) (σ : aH) : Lq G d M_221 (27, [some (.ref 0), some (.int x1), some (.int x2), some (.long x3), none, some (.int x5)], [], σ) = Lq G d M_221 (34, [some (.ref 0), some (.int x1), some (.int x2), some (.long x3), none, some (.int x5)], [.int x5, .ref 30, .long x3], σ) :=
  (aUn_eq (tkd G.1 G.2) tmi (aRun (tkd G.1 G.2) tmi tmt d) M_221 [] 4 (27, [some (.ref 0), some (.int x1), some (.int x2), some (.long x3), none, some (.int x5)], [], σ)).trans rfl
set_option maxRecDepth 20000 in
theorem q_221_2841 (G : Nat × (Nat → Int32)) (d : Nat) (x1 : Int32) (x2 : Int32) (x3 : Int64) (x5 : Int32) (s0 : Int32) (s2 : Int64) (σ : aH) : Lq G d M_221 (34, [some (.ref 0), some (.int x1), some (.int x2), some (.long x3), none, some (.int x5)], [.int s0, .ref 30, .long s2], σ) = aCI (Rn G d 32 [.ref 30, .int s0] σ) fun v2 σ1 => Lq G d M_221 (37, [some (.ref 0), some (.int x1), some (.int x2), some (.long x3), none, some (.int x5)], [.int v2, .long s2], σ1) :=
  (aUn_eq (tkd G.1 G.2) tmi (aRun (tkd G.1 G.2) tmi tmt d) M_221 [] 1 (34, [some (.ref 0), some (.int x1), some (.int x2), some (.long x3), none, some (.int x5)], [.int s0, .ref 30, .long s2], σ)).trans rfl
set_option maxRecDepth 20000 in
theorem q_221_2842 (G : Nat × (Nat → Int32)) (d : Nat) (x1 : Int32) (x2 : Int32) (x3 : Int64) (x5 : Int32) (s0 : Int32) (s1 : Int64) (σ : aH) : Lq G d M_221 (37, [some (.ref 0), some (.int x1), some (.int x2), some (.long x3), none, some (.int x5)], [.int s0, .long s1], σ) = Lq G d M_221 (44, [some (.ref 0), some (.int x1), some (.int x2), some (.long x3), none, some (.int x5)], [.int x5, .ref 31, .long (s0).toInt64, .long s1], σ) :=
  (aUn_eq (tkd G.1 G.2) tmi (aRun (tkd G.1 G.2) tmi tmt d) M_221 [] 4 (37, [some (.ref 0), some (.int x1), some (.int x2), some (.long x3), none, some (.int x5)], [.int s0, .long s1], σ)).trans rfl
set_option maxRecDepth 20000 in
theorem q_221_2843 (G : Nat × (Nat → Int32)) (d : Nat) (x1 : Int32) (x2 : Int32) (x3 : Int64) (x5 : Int32) (s0 : Int32) (s2 : Int64) (s3 : Int64) (σ : aH) : Lq G d M_221 (44, [some (.ref 0), some (.int x1), some (.int x2), some (.long x3), none, some (.int x5)], [.int s0, .ref 31, .long s2, .long s3], σ) = aCI (Rn G d 32 [.ref 31, .int s0] σ) fun v2 σ1 => Lq G d M_221 (47, [some (.ref 0), some (.int x1), some (.int x2), some (.long x3), none, some (.int x5)], [.int v2, .long s2, .long s3], σ1) :=
  (aUn_eq (tkd G.1 G.2) tmi (aRun (tkd G.1 G.2) tmi tmt d) M_221 [] 1 (44, [some (.ref 0), some (.int x1), some (.int x2), some (.long x3), none, some (.int x5)], [.int s0, .ref 31, .long s2, .long s3], σ)).trans rfl
set_option maxRecDepth 20000 in
theorem q_221_2844 (G : Nat × (Nat → Int32)) (d : Nat) (x1 : Int32) (x2 : Int32) (x3 : Int64) (x5 : Int32) (s0 : Int32) (s1 : Int64) (s2 : Int64) (σ : aH) : Lq G d M_221 (47, [some (.ref 0), some (.int x1), some (.int x2), some (.long x3), none, some (.int x5)], [.int s0, .long s1, .long s2], σ) = Lq G d M_221 (54, [some (.ref 0), some (.int x1), some (.int x2), some (.long (s2 + (s1 * (s0).toInt64))), none, some (.int (x5 + (1 : Int32)))], [], σ) :=
  (aUn_eq (tkd G.1 G.2) tmi (aRun (tkd G.1 G.2) tmi tmt d) M_221 [] 5 (47, [some (.ref 0), some (.int x1), some (.int x2), some (.long x3), none, some (.int x5)], [.int s0, .long s1, .long s2], σ)).trans rfl
set_option maxRecDepth 20000 in
theorem q_221_2845 (G : Nat × (Nat → Int32)) (d : Nat) (x1 : Int32) (x2 : Int32) (x3 : Int64) (x5 : Int32) (σ : aH) : Lq G d M_221 (54, [some (.ref 0), some (.int x1), some (.int x2), some (.long x3), none, some (.int x5)], [], σ) = Lq G d M_221 (5, [some (.ref 0), some (.int x1), some (.int x2), some (.long x3), none, some (.int x5)], [], σ) :=
  (aUn_eq (tkd G.1 G.2) tmi (aRun (tkd G.1 G.2) tmi tmt d) M_221 [] 1 (54, [some (.ref 0), some (.int x1), some (.int x2), some (.long x3), none, some (.int x5)], [], σ)).trans rfl
set_option maxRecDepth 20000 in
theorem q_221_2846 (G : Nat × (Nat → Int32)) (d : Nat) (x2 : Int32) (x3 : Int64) (x5 : Int32) (σ : aH) : Lq G d M_221 (60, [some (.ref 0), none, some (.int x2), some (.long x3), none, some (.int x5)], [], σ) = Lq G d M_221 (63, [some (.ref 0), none, some (.int x2), some (.long x3), none, some (.int x5)], [.int x2, .int x5], σ) :=
  (aUn_eq (tkd G.1 G.2) tmi (aRun (tkd G.1 G.2) tmi tmt d) M_221 [] 2 (60, [some (.ref 0), none, some (.int x2), some (.long x3), none, some (.int x5)], [], σ)).trans rfl
set_option maxRecDepth 20000 in
theorem q_221_2847 (G : Nat × (Nat → Int32)) (d : Nat) (x2 : Int32) (x3 : Int64) (x5 : Int32) (s0 : Int32) (s1 : Int32) (σ : aH) : Lq G d M_221 (63, [some (.ref 0), none, some (.int x2), some (.long x3), none, some (.int x5)], [.int s0, .int s1], σ) = if s0 ≤ s1 then Lq G d M_221 (115, [some (.ref 0), none, some (.int x2), some (.long x3), none, some (.int x5)], [], σ) else Lq G d M_221 (66, [some (.ref 0), none, some (.int x2), some (.long x3), none, some (.int x5)], [], σ) :=
  (aUn_eq (tkd G.1 G.2) tmi (aRun (tkd G.1 G.2) tmi tmt d) M_221 [] 1 (63, [some (.ref 0), none, some (.int x2), some (.long x3), none, some (.int x5)], [.int s0, .int s1], σ)).trans rfl
set_option maxRecDepth 20000 in
theorem q_221_2848 (G : Nat × (Nat → Int32)) (d : Nat) (x2 : Int32) (x3 : Int64) (x5 : Int32) (σ : aH) : Lq G d M_221 (115, [some (.ref 0), none, some (.int x2), some (.long x3), none, some (.int x5)], [], σ) = some (.inl none, σ) :=
  (aUn_eq (tkd G.1 G.2) tmi (aRun (tkd G.1 G.2) tmi tmt d) M_221 [] 1 (115, [some (.ref 0), none, some (.int x2), some (.long x3), none, some (.int x5)], [], σ)).trans rfl
set_option maxRecDepth 20000 in
theorem q_221_2849 (G : Nat × (Nat → Int32)) (d : Nat) (x2 : Int32) (x3 : Int64) (x5 : Int32) (σ : aH) : Lq G d M_221 (66, [some (.ref 0), none, some (.int x2), some (.long x3), none, some (.int x5)], [], σ) = Lq G d M_221 (69, [some (.ref 0), none, some (.int x2), some (.long x3), none, some (.int x5)], [.int (lg_cmp x3 (0 : Int64))], σ) :=
  (aUn_eq (tkd G.1 G.2) tmi (aRun (tkd G.1 G.2) tmi tmt d) M_221 [] 3 (66, [some (.ref 0), none, some (.int x2), some (.long x3), none, some (.int x5)], [], σ)).trans rfl
set_option maxRecDepth 20000 in
theorem q_221_2850 (G : Nat × (Nat → Int32)) (d : Nat) (x2 : Int32) (x3 : Int64) (x5 : Int32) (s0 : Int32) (σ : aH) : Lq G d M_221 (69, [some (.ref 0), none, some (.int x2), some (.long x3), none, some (.int x5)], [.int s0], σ) = if s0 ≤ 0 then Lq G d M_221 (115, [some (.ref 0), none, some (.int x2), some (.long x3), none, some (.int x5)], [], σ) else Lq G d M_221 (72, [some (.ref 0), none, some (.int x2), some (.long x3), none, some (.int x5)], [], σ) :=
  (aUn_eq (tkd G.1 G.2) tmi (aRun (tkd G.1 G.2) tmi tmt d) M_221 [] 1 (69, [some (.ref 0), none, some (.int x2), some (.long x3), none, some (.int x5)], [.int s0], σ)).trans rfl
set_option maxRecDepth 20000 in
theorem q_221_2851 (G : Nat × (Nat → Int32)) (d : Nat) (x2 : Int32) (x3 : Int64) (x5 : Int32) (σ : aH) : Lq G d M_221 (72, [some (.ref 0), none, some (.int x2), some (.long x3), none, some (.int x5)], [], σ) = Lq G d M_221 (84, [some (.ref 0), none, some (.int x2), some (.long x3), none, some (.int x5)], [.int x5, .ref 30, .int x5, .ref 30], σ) :=
  (aUn_eq (tkd G.1 G.2) tmi (aRun (tkd G.1 G.2) tmi tmt d) M_221 [] 6 (72, [some (.ref 0), none, some (.int x2), some (.long x3), none, some (.int x5)], [], σ)).trans rfl
set_option maxRecDepth 20000 in
theorem q_221_2852 (G : Nat × (Nat → Int32)) (d : Nat) (x2 : Int32) (x3 : Int64) (x5 : Int32) (s0 : Int32) (s2 : Int32) (σ : aH) : Lq G d M_221 (84, [some (.ref 0), none, some (.int x2), some (.long x3), none, some (.int x5)], [.int s0, .ref 30, .int s2, .ref 30], σ) = aCI (Rn G d 32 [.ref 30, .int s0] σ) fun v2 σ1 => Lq G d M_221 (87, [some (.ref 0), none, some (.int x2), some (.long x3), none, some (.int x5)], [.int v2, .int s2, .ref 30], σ1) :=
  (aUn_eq (tkd G.1 G.2) tmi (aRun (tkd G.1 G.2) tmi tmt d) M_221 [] 1 (84, [some (.ref 0), none, some (.int x2), some (.long x3), none, some (.int x5)], [.int s0, .ref 30, .int s2, .ref 30], σ)).trans rfl
set_option maxRecDepth 20000 in
theorem q_221_2853 (G : Nat × (Nat → Int32)) (d : Nat) (x2 : Int32) (x3 : Int64) (x5 : Int32) (s0 : Int32) (s1 : Int32) (σ : aH) : Lq G d M_221 (87, [some (.ref 0), none, some (.int x2), some (.long x3), none, some (.int x5)], [.int s0, .int s1, .ref 30], σ) = Lq G d M_221 (94, [some (.ref 0), none, some (.int x2), some (.long x3), none, some (.int x5)], [.int x5, .ref 31, .long (s0).toInt64, .int s1, .ref 30], σ) :=
  (aUn_eq (tkd G.1 G.2) tmi (aRun (tkd G.1 G.2) tmi tmt d) M_221 [] 4 (87, [some (.ref 0), none, some (.int x2), some (.long x3), none, some (.int x5)], [.int s0, .int s1, .ref 30], σ)).trans rfl
set_option maxRecDepth 20000 in
theorem q_221_2854 (G : Nat × (Nat → Int32)) (d : Nat) (x2 : Int32) (x3 : Int64) (x5 : Int32) (s0 : Int32) (s2 : Int64) (s3 : Int32) (σ : aH) : Lq G d M_221 (94, [some (.ref 0), none, some (.int x2), some (.long x3), none, some (.int x5)], [.int s0, .ref 31, .long s2, .int s3, .ref 30], σ) = aCI (Rn G d 32 [.ref 31, .int s0] σ) fun v2 σ1 => Lq G d M_221 (97, [some (.ref 0), none, some (.int x2), some (.long x3), none, some (.int x5)], [.int v2, .long s2, .int s3, .ref 30], σ1) :=
  (aUn_eq (tkd G.1 G.2) tmi (aRun (tkd G.1 G.2) tmi tmt d) M_221 [] 1 (94, [some (.ref 0), none, some (.int x2), some (.long x3), none, some (.int x5)], [.int s0, .ref 31, .long s2, .int s3, .ref 30], σ)).trans rfl
set_option maxRecDepth 20000 in
theorem q_221_2855 (G : Nat × (Nat → Int32)) (d : Nat) (x2 : Int32) (x3 : Int64) (x5 : Int32) (s0 : Int32) (s1 : Int64) (s2 : Int32) (σ : aH) : Lq G d M_221 (97, [some (.ref 0), none, some (.int x2), some (.long x3), none, some (.int x5)], [.int s0, .long s1, .int s2, .ref 30], σ) = Lq G d M_221 (104, [some (.ref 0), none, some (.int x2), some (.long x3), none, some (.int x5)], [.long x3, .long ((s1 * (s0).toInt64) * (1000000 : Int64)), .int s2, .ref 30], σ) :=
  (aUn_eq (tkd G.1 G.2) tmi (aRun (tkd G.1 G.2) tmi tmt d) M_221 [] 5 (97, [some (.ref 0), none, some (.int x2), some (.long x3), none, some (.int x5)], [.int s0, .long s1, .int s2, .ref 30], σ)).trans rfl
set_option maxRecDepth 20000 in
theorem q_221_2856 (G : Nat × (Nat → Int32)) (d : Nat) (x2 : Int32) (x3 : Int64) (x5 : Int32) (s0 : Int64) (s1 : Int64) (s2 : Int32) (σ : aH) : Lq G d M_221 (104, [some (.ref 0), none, some (.int x2), some (.long x3), none, some (.int x5)], [.long s0, .long s1, .int s2, .ref 30], σ) = aNzL (s0) (Lq G d M_221 (105, [some (.ref 0), none, some (.int x2), some (.long x3), none, some (.int x5)], [.long (s1 / s0), .int s2, .ref 30], σ)) :=
  (aUn_eq (tkd G.1 G.2) tmi (aRun (tkd G.1 G.2) tmi tmt d) M_221 [] 1 (104, [some (.ref 0), none, some (.int x2), some (.long x3), none, some (.int x5)], [.long s0, .long s1, .int s2, .ref 30], σ)).trans rfl
set_option maxRecDepth 20000 in
theorem q_221_2857 (G : Nat × (Nat → Int32)) (d : Nat) (x2 : Int32) (x3 : Int64) (x5 : Int32) (s0 : Int64) (s1 : Int32) (σ : aH) : Lq G d M_221 (105, [some (.ref 0), none, some (.int x2), some (.long x3), none, some (.int x5)], [.long s0, .int s1, .ref 30], σ) = Lq G d M_221 (106, [some (.ref 0), none, some (.int x2), some (.long x3), none, some (.int x5)], [.int (s0).toInt32, .int s1, .ref 30], σ) :=
  (aUn_eq (tkd G.1 G.2) tmi (aRun (tkd G.1 G.2) tmi tmt d) M_221 [] 1 (105, [some (.ref 0), none, some (.int x2), some (.long x3), none, some (.int x5)], [.long s0, .int s1, .ref 30], σ)).trans rfl
set_option maxRecDepth 20000 in
theorem q_221_2858 (G : Nat × (Nat → Int32)) (d : Nat) (x2 : Int32) (x3 : Int64) (x5 : Int32) (s0 : Int32) (s1 : Int32) (σ : aH) : Lq G d M_221 (106, [some (.ref 0), none, some (.int x2), some (.long x3), none, some (.int x5)], [.int s0, .int s1, .ref 30], σ) = aCV (Rn G d 24 [.ref 30, .int s1, .int s0] σ) fun σ1 => Lq G d M_221 (109, [some (.ref 0), none, some (.int x2), some (.long x3), none, some (.int x5)], [], σ1) :=
  (aUn_eq (tkd G.1 G.2) tmi (aRun (tkd G.1 G.2) tmi tmt d) M_221 [] 1 (106, [some (.ref 0), none, some (.int x2), some (.long x3), none, some (.int x5)], [.int s0, .int s1, .ref 30], σ)).trans rfl
set_option maxRecDepth 20000 in
theorem q_221_2859 (G : Nat × (Nat → Int32)) (d : Nat) (x2 : Int32) (x3 : Int64) (x5 : Int32) (σ : aH) : Lq G d M_221 (109, [some (.ref 0), none, some (.int x2), some (.long x3), none, some (.int x5)], [], σ) = Lq G d M_221 (60, [some (.ref 0), none, some (.int x2), some (.long x3), none, some (.int (x5 + (1 : Int32)))], [], σ) :=
  (aUn_eq (tkd G.1 G.2) tmi (aRun (tkd G.1 G.2) tmi tmt d) M_221 [] 2 (109, [some (.ref 0), none, some (.int x2), some (.long x3), none, some (.int x5)], [], σ)).trans rfl
set_option maxRecDepth 20000 in
theorem q_226_2860 (G : Nat × (Nat → Int32)) (d : Nat) (x1 : Int32) (x2 : Int32) (σ : aH) : Lq G d M_226 (0, [some (.ref 33), some (.int x1), some (.int x2), none, none], [], σ) = Lq G d M_226 (2, [some (.ref 33), some (.int x1), some (.int x2), none, none], [.int x2, .ref 33], σ) :=
  (aUn_eq (tkd G.1 G.2) tmi (aRun (tkd G.1 G.2) tmi tmt d) M_226 [] 2 (0, [some (.ref 33), some (.int x1), some (.int x2), none, none], [], σ)).trans rfl
set_option maxRecDepth 20000 in
theorem q_226_2861 (G : Nat × (Nat → Int32)) (d : Nat) (x1 : Int32) (x2 : Int32) (s0 : Int32) (σ : aH) : Lq G d M_226 (2, [some (.ref 33), some (.int x1), some (.int x2), none, none], [.int s0, .ref 33], σ) = aCV (Rn G d 227 [.ref 33, .int s0] σ) fun σ1 => Lq G d M_226 (5, [some (.ref 33), some (.int x1), some (.int x2), none, none], [], σ1) :=
  (aUn_eq (tkd G.1 G.2) tmi (aRun (tkd G.1 G.2) tmi tmt d) M_226 [] 1 (2, [some (.ref 33), some (.int x1), some (.int x2), none, none], [.int s0, .ref 33], σ)).trans rfl
set_option maxRecDepth 20000 in
theorem q_226_2862 (G : Nat × (Nat → Int32)) (d : Nat) (x1 : Int32) (x2 : Int32) (σ : aH) : Lq G d M_226 (5, [some (.ref 33), some (.int x1), some (.int x2), none, none], [], σ) = Lq G d M_226 (10, [some (.ref 33), some (.int x1), some (.int x2), none, none], [.int x2, .ref 33, .int (1000000 : Int32)], σ) :=
  (aUn_eq (tkd G.1 G.2) tmi (aRun (tkd G.1 G.2) tmi tmt d) M_226 [] 3 (5, [some (.ref 33), some (.int x1), some (.int x2), none, none], [], σ)).trans rfl
set_option maxRecDepth 20000 in
theorem q_226_2863 (G : Nat × (Nat → Int32)) (d : Nat) (x1 : Int32) (x2 : Int32) (s0 : Int32) (s2 : Int32) (σ : aH) : Lq G d M_226 (10, [some (.ref 33), some (.int x1), some (.int x2), none, none], [.int s0, .ref 33, .int s2], σ) = aCI (Rn G d 228 [.ref 33, .int s0] σ) fun v2 σ1 => Lq G d M_226 (13, [some (.ref 33), some (.int x1), some (.int x2), none, none], [.int v2, .int s2], σ1) :=
  (aUn_eq (tkd G.1 G.2) tmi (aRun (tkd G.1 G.2) tmi tmt d) M_226 [] 1 (10, [some (.ref 33), some (.int x1), some (.int x2), none, none], [.int s0, .ref 33, .int s2], σ)).trans rfl
set_option maxRecDepth 20000 in
theorem q_226_2864 (G : Nat × (Nat → Int32)) (d : Nat) (x1 : Int32) (x2 : Int32) (s0 : Int32) (s1 : Int32) (σ : aH) : Lq G d M_226 (13, [some (.ref 33), some (.int x1), some (.int x2), none, none], [.int s0, .int s1], σ) = Lq G d M_226 (17, [some (.ref 33), some (.int x1), some (.int x2), none, none], [.int (20 : Int32), .int x1, .ref 33, .int s0, .int s1], σ) :=
  (aUn_eq (tkd G.1 G.2) tmi (aRun (tkd G.1 G.2) tmi tmt d) M_226 [] 3 (13, [some (.ref 33), some (.int x1), some (.int x2), none, none], [.int s0, .int s1], σ)).trans rfl
set_option maxRecDepth 20000 in
theorem q_226_2865 (G : Nat × (Nat → Int32)) (d : Nat) (x1 : Int32) (x2 : Int32) (s0 : Int32) (s1 : Int32) (s3 : Int32) (s4 : Int32) (σ : aH) : Lq G d M_226 (17, [some (.ref 33), some (.int x1), some (.int x2), none, none], [.int s0, .int s1, .ref 33, .int s3, .int s4], σ) = aCI (Rn G d 189 [.ref 33, .int s1, .int s0] σ) fun v2 σ1 => Lq G d M_226 (20, [some (.ref 33), some (.int x1), some (.int x2), none, none], [.int v2, .int s3, .int s4], σ1) :=
  (aUn_eq (tkd G.1 G.2) tmi (aRun (tkd G.1 G.2) tmi tmt d) M_226 [] 1 (17, [some (.ref 33), some (.int x1), some (.int x2), none, none], [.int s0, .int s1, .ref 33, .int s3, .int s4], σ)).trans rfl
set_option maxRecDepth 20000 in
theorem q_226_2866 (G : Nat × (Nat → Int32)) (d : Nat) (x1 : Int32) (x2 : Int32) (s0 : Int32) (s1 : Int32) (s2 : Int32) (σ : aH) : Lq G d M_226 (20, [some (.ref 33), some (.int x1), some (.int x2), none, none], [.int s0, .int s1, .int s2], σ) = Lq G d M_226 (30, [some (.ref 33), some (.int x1), some (.int x2), none, none], [.int (((5 : Int32) * x1) + (2 : Int32)), .ref 36, .int (s1 - s0), .int s2], σ) :=
  (aUn_eq (tkd G.1 G.2) tmi (aRun (tkd G.1 G.2) tmi tmt d) M_226 [] 8 (20, [some (.ref 33), some (.int x1), some (.int x2), none, none], [.int s0, .int s1, .int s2], σ)).trans rfl
set_option maxRecDepth 20000 in
theorem q_226_2867 (G : Nat × (Nat → Int32)) (d : Nat) (x1 : Int32) (x2 : Int32) (s0 : Int32) (s2 : Int32) (s3 : Int32) (σ : aH) : Lq G d M_226 (30, [some (.ref 33), some (.int x1), some (.int x2), none, none], [.int s0, .ref 36, .int s2, .int s3], σ) = aIx (s0) 30 fun j1 => Lq G d M_226 (31, [some (.ref 33), some (.int x1), some (.int x2), none, none], [.int (σ.1 36 j1), .int s2, .int s3], σ) :=
  (aUn_eq (tkd G.1 G.2) tmi (aRun (tkd G.1 G.2) tmi tmt d) M_226 [] 1 (30, [some (.ref 33), some (.int x1), some (.int x2), none, none], [.int s0, .ref 36, .int s2, .int s3], σ)).trans rfl
set_option maxRecDepth 20000 in
theorem q_226_2868 (G : Nat × (Nat → Int32)) (d : Nat) (x1 : Int32) (x2 : Int32) (s0 : Int32) (s1 : Int32) (s2 : Int32) (σ : aH) : Lq G d M_226 (31, [some (.ref 33), some (.int x1), some (.int x2), none, none], [.int s0, .int s1, .int s2], σ) = aCI (Rn G d 229 [.int s2, .int s1, .int s0] σ) fun v2 σ1 => Lq G d M_226 (34, [some (.ref 33), some (.int x1), some (.int x2), none, none], [.int v2], σ1) :=
  (aUn_eq (tkd G.1 G.2) tmi (aRun (tkd G.1 G.2) tmi tmt d) M_226 [] 1 (31, [some (.ref 33), some (.int x1), some (.int x2), none, none], [.int s0, .int s1, .int s2], σ)).trans rfl
set_option maxRecDepth 20000 in
theorem q_226_2869 (G : Nat × (Nat → Int32)) (d : Nat) (x1 : Int32) (x2 : Int32) (s0 : Int32) (σ : aH) : Lq G d M_226 (34, [some (.ref 33), some (.int x1), some (.int x2), none, none], [.int s0], σ) = Lq G d M_226 (47, [some (.ref 33), some (.int x1), some (.int x2), some (.int s0), none], [.int (((17 : Int32) * x2) + (13 : Int32)), .ref 40, .int s0], σ) :=
  (aUn_eq (tkd G.1 G.2) tmi (aRun (tkd G.1 G.2) tmi tmt d) M_226 [] 9 (34, [some (.ref 33), some (.int x1), some (.int x2), none, none], [.int s0], σ)).trans rfl
set_option maxRecDepth 20000 in
theorem q_226_2870 (G : Nat × (Nat → Int32)) (d : Nat) (x1 : Int32) (x2 : Int32) (x3 : Int32) (s0 : Int32) (s2 : Int32) (σ : aH) : Lq G d M_226 (47, [some (.ref 33), some (.int x1), some (.int x2), some (.int x3), none], [.int s0, .ref 40, .int s2], σ) = aIx (s0) 1020 fun j1 => Lq G d M_226 (48, [some (.ref 33), some (.int x1), some (.int x2), some (.int x3), none], [.int (σ.1 40 j1), .int s2], σ) :=
  (aUn_eq (tkd G.1 G.2) tmi (aRun (tkd G.1 G.2) tmi tmt d) M_226 [] 1 (47, [some (.ref 33), some (.int x1), some (.int x2), some (.int x3), none], [.int s0, .ref 40, .int s2], σ)).trans rfl
set_option maxRecDepth 20000 in
theorem q_226_2871 (G : Nat × (Nat → Int32)) (d : Nat) (x1 : Int32) (x2 : Int32) (x3 : Int32) (s0 : Int32) (s1 : Int32) (σ : aH) : Lq G d M_226 (48, [some (.ref 33), some (.int x1), some (.int x2), some (.int x3), none], [.int s0, .int s1], σ) = Lq G d M_226 (52, [some (.ref 33), some (.int x1), some (.int x2), some (.int x3), none], [.int (21 : Int32), .int x1, .ref 33, .int s0, .int s1], σ) :=
  (aUn_eq (tkd G.1 G.2) tmi (aRun (tkd G.1 G.2) tmi tmt d) M_226 [] 3 (48, [some (.ref 33), some (.int x1), some (.int x2), some (.int x3), none], [.int s0, .int s1], σ)).trans rfl
set_option maxRecDepth 20000 in
theorem q_226_2872 (G : Nat × (Nat → Int32)) (d : Nat) (x1 : Int32) (x2 : Int32) (x3 : Int32) (s0 : Int32) (s1 : Int32) (s3 : Int32) (s4 : Int32) (σ : aH) : Lq G d M_226 (52, [some (.ref 33), some (.int x1), some (.int x2), some (.int x3), none], [.int s0, .int s1, .ref 33, .int s3, .int s4], σ) = aCI (Rn G d 189 [.ref 33, .int s1, .int s0] σ) fun v2 σ1 => Lq G d M_226 (55, [some (.ref 33), some (.int x1), some (.int x2), some (.int x3), none], [.int v2, .int s3, .int s4], σ1) :=
  (aUn_eq (tkd G.1 G.2) tmi (aRun (tkd G.1 G.2) tmi tmt d) M_226 [] 1 (52, [some (.ref 33), some (.int x1), some (.int x2), some (.int x3), none], [.int s0, .int s1, .ref 33, .int s3, .int s4], σ)).trans rfl
set_option maxRecDepth 20000 in
theorem q_226_2873 (G : Nat × (Nat → Int32)) (d : Nat) (x1 : Int32) (x2 : Int32) (x3 : Int32) (s0 : Int32) (s1 : Int32) (s2 : Int32) (σ : aH) : Lq G d M_226 (55, [some (.ref 33), some (.int x1), some (.int x2), some (.int x3), none], [.int s0, .int s1, .int s2], σ) = Lq G d M_226 (58, [some (.ref 33), some (.int x1), some (.int x2), some (.int x3), none], [.int (10 : Int32), .int (s1 - s0), .int s2], σ) :=
  (aUn_eq (tkd G.1 G.2) tmi (aRun (tkd G.1 G.2) tmi tmt d) M_226 [] 2 (55, [some (.ref 33), some (.int x1), some (.int x2), some (.int x3), none], [.int s0, .int s1, .int s2], σ)).trans rfl
set_option maxRecDepth 20000 in
theorem q_226_2874 (G : Nat × (Nat → Int32)) (d : Nat) (x1 : Int32) (x2 : Int32) (x3 : Int32) (s0 : Int32) (s1 : Int32) (s2 : Int32) (σ : aH) : Lq G d M_226 (58, [some (.ref 33), some (.int x1), some (.int x2), some (.int x3), none], [.int s0, .int s1, .int s2], σ) = aCI (Rn G d 229 [.int s2, .int s1, .int s0] σ) fun v2 σ1 => Lq G d M_226 (61, [some (.ref 33), some (.int x1), some (.int x2), some (.int x3), none], [.int v2], σ1) :=
  (aUn_eq (tkd G.1 G.2) tmi (aRun (tkd G.1 G.2) tmi tmt d) M_226 [] 1 (58, [some (.ref 33), some (.int x1), some (.int x2), some (.int x3), none], [.int s0, .int s1, .int s2], σ)).trans rfl
set_option maxRecDepth 20000 in
theorem q_226_2875 (G : Nat × (Nat → Int32)) (d : Nat) (x1 : Int32) (x2 : Int32) (x3 : Int32) (s0 : Int32) (σ : aH) : Lq G d M_226 (61, [some (.ref 33), some (.int x1), some (.int x2), some (.int x3), none], [.int s0], σ) = Lq G d M_226 (65, [some (.ref 33), some (.int x1), some (.int x2), some (.int s0), some (.int (0 : Int32))], [], σ) :=
  (aUn_eq (tkd G.1 G.2) tmi (aRun (tkd G.1 G.2) tmi tmt d) M_226 [] 3 (61, [some (.ref 33), some (.int x1), some (.int x2), some (.int x3), none], [.int s0], σ)).trans rfl
set_option maxRecDepth 20000 in
theorem q_226_2876 (G : Nat × (Nat → Int32)) (d : Nat) (x1 : Int32) (x2 : Int32) (x3 : Int32) (x4 : Int32) (σ : aH) : Lq G d M_226 (65, [some (.ref 33), some (.int x1), some (.int x2), some (.int x3), some (.int x4)], [], σ) = Lq G d M_226 (71, [some (.ref 33), some (.int x1), some (.int x2), some (.int x3), some (.int x4)], [.int (σ.1 33 4), .int x4], σ) :=
  (aUn_eq (tkd G.1 G.2) tmi (aRun (tkd G.1 G.2) tmi tmt d) M_226 [] 3 (65, [some (.ref 33), some (.int x1), some (.int x2), some (.int x3), some (.int x4)], [], σ)).trans rfl
set_option maxRecDepth 20000 in
theorem q_226_2877 (G : Nat × (Nat → Int32)) (d : Nat) (x1 : Int32) (x2 : Int32) (x3 : Int32) (x4 : Int32) (s0 : Int32) (s1 : Int32) (σ : aH) : Lq G d M_226 (71, [some (.ref 33), some (.int x1), some (.int x2), some (.int x3), some (.int x4)], [.int s0, .int s1], σ) = if s0 ≤ s1 then Lq G d M_226 (106, [some (.ref 33), some (.int x1), some (.int x2), some (.int x3), some (.int x4)], [], σ) else Lq G d M_226 (74, [some (.ref 33), some (.int x1), some (.int x2), some (.int x3), some (.int x4)], [], σ) :=
  (aUn_eq (tkd G.1 G.2) tmi (aRun (tkd G.1 G.2) tmi tmt d) M_226 [] 1 (71, [some (.ref 33), some (.int x1), some (.int x2), some (.int x3), some (.int x4)], [.int s0, .int s1], σ)).trans rfl
set_option maxRecDepth 20000 in
theorem q_226_2878 (G : Nat × (Nat → Int32)) (d : Nat) (x1 : Int32) (x2 : Int32) (x3 : Int32) (x4 : Int32) (σ : aH) : Lq G d M_226 (106, [some (.ref 33), some (.int x1), some (.int x2), some (.int x3), some (.int x4)], [], σ) = Lq G d M_226 (107, [some (.ref 33), some (.int x1), some (.int x2), some (.int x3), some (.int x4)], [.int x3], σ) :=
  (aUn_eq (tkd G.1 G.2) tmi (aRun (tkd G.1 G.2) tmi tmt d) M_226 [] 1 (106, [some (.ref 33), some (.int x1), some (.int x2), some (.int x3), some (.int x4)], [], σ)).trans rfl
set_option maxRecDepth 20000 in
theorem q_226_2879 (G : Nat × (Nat → Int32)) (d : Nat) (x1 : Int32) (x2 : Int32) (x3 : Int32) (x4 : Int32) (s0 : Int32) (σ : aH) : Lq G d M_226 (107, [some (.ref 33), some (.int x1), some (.int x2), some (.int x3), some (.int x4)], [.int s0], σ) = some (.inl (some (.int s0)), σ) :=
  (aUn_eq (tkd G.1 G.2) tmi (aRun (tkd G.1 G.2) tmi tmt d) M_226 [] 1 (107, [some (.ref 33), some (.int x1), some (.int x2), some (.int x3), some (.int x4)], [.int s0], σ)).trans rfl
set_option maxRecDepth 20000 in
theorem q_226_2880 (G : Nat × (Nat → Int32)) (d : Nat) (x1 : Int32) (x2 : Int32) (x3 : Int32) (x4 : Int32) (σ : aH) : Lq G d M_226 (74, [some (.ref 33), some (.int x1), some (.int x2), some (.int x3), some (.int x4)], [], σ) = Lq G d M_226 (86, [some (.ref 33), some (.int x1), some (.int x2), some (.int x3), some (.int x4)], [.int (((17 : Int32) * x2) + x4), .ref 40, .int x3], σ) :=
  (aUn_eq (tkd G.1 G.2) tmi (aRun (tkd G.1 G.2) tmi tmt d) M_226 [] 8 (74, [some (.ref 33), some (.int x1), some (.int x2), some (.int x3), some (.int x4)], [], σ)).trans rfl
set_option maxRecDepth 20000 in
theorem q_226_2881 (G : Nat × (Nat → Int32)) (d : Nat) (x1 : Int32) (x2 : Int32) (x3 : Int32) (x4 : Int32) (s0 : Int32) (s2 : Int32) (σ : aH) : Lq G d M_226 (86, [some (.ref 33), some (.int x1), some (.int x2), some (.int x3), some (.int x4)], [.int s0, .ref 40, .int s2], σ) = aIx (s0) 1020 fun j1 => Lq G d M_226 (87, [some (.ref 33), some (.int x1), some (.int x2), some (.int x3), some (.int x4)], [.int (σ.1 40 j1), .int s2], σ) :=
  (aUn_eq (tkd G.1 G.2) tmi (aRun (tkd G.1 G.2) tmi tmt d) M_226 [] 1 (86, [some (.ref 33), some (.int x1), some (.int x2), some (.int x3), some (.int x4)], [.int s0, .ref 40, .int s2], σ)).trans rfl
set_option maxRecDepth 20000 in
theorem q_226_2882 (G : Nat × (Nat → Int32)) (d : Nat) (x1 : Int32) (x2 : Int32) (x3 : Int32) (x4 : Int32) (s0 : Int32) (s1 : Int32) (σ : aH) : Lq G d M_226 (87, [some (.ref 33), some (.int x1), some (.int x2), some (.int x3), some (.int x4)], [.int s0, .int s1], σ) = Lq G d M_226 (91, [some (.ref 33), some (.int x1), some (.int x2), some (.int x3), some (.int x4)], [.int x4, .int x1, .ref 33, .int s0, .int s1], σ) :=
  (aUn_eq (tkd G.1 G.2) tmi (aRun (tkd G.1 G.2) tmi tmt d) M_226 [] 3 (87, [some (.ref 33), some (.int x1), some (.int x2), some (.int x3), some (.int x4)], [.int s0, .int s1], σ)).trans rfl
set_option maxRecDepth 20000 in
theorem q_226_2883 (G : Nat × (Nat → Int32)) (d : Nat) (x1 : Int32) (x2 : Int32) (x3 : Int32) (x4 : Int32) (s0 : Int32) (s1 : Int32) (s3 : Int32) (s4 : Int32) (σ : aH) : Lq G d M_226 (91, [some (.ref 33), some (.int x1), some (.int x2), some (.int x3), some (.int x4)], [.int s0, .int s1, .ref 33, .int s3, .int s4], σ) = aCI (Rn G d 189 [.ref 33, .int s1, .int s0] σ) fun v2 σ1 => Lq G d M_226 (94, [some (.ref 33), some (.int x1), some (.int x2), some (.int x3), some (.int x4)], [.int v2, .int s3, .int s4], σ1) :=
  (aUn_eq (tkd G.1 G.2) tmi (aRun (tkd G.1 G.2) tmi tmt d) M_226 [] 1 (91, [some (.ref 33), some (.int x1), some (.int x2), some (.int x3), some (.int x4)], [.int s0, .int s1, .ref 33, .int s3, .int s4], σ)).trans rfl
set_option maxRecDepth 20000 in
theorem q_226_2884 (G : Nat × (Nat → Int32)) (d : Nat) (x1 : Int32) (x2 : Int32) (x3 : Int32) (x4 : Int32) (s0 : Int32) (s1 : Int32) (s2 : Int32) (σ : aH) : Lq G d M_226 (94, [some (.ref 33), some (.int x1), some (.int x2), some (.int x3), some (.int x4)], [.int s0, .int s1, .int s2], σ) = Lq G d M_226 (96, [some (.ref 33), some (.int x1), some (.int x2), some (.int x3), some (.int x4)], [.int (2 : Int32), .int (s1 - s0), .int s2], σ) :=
  (aUn_eq (tkd G.1 G.2) tmi (aRun (tkd G.1 G.2) tmi tmt d) M_226 [] 2 (94, [some (.ref 33), some (.int x1), some (.int x2), some (.int x3), some (.int x4)], [.int s0, .int s1, .int s2], σ)).trans rfl
set_option maxRecDepth 20000 in
theorem q_226_2885 (G : Nat × (Nat → Int32)) (d : Nat) (x1 : Int32) (x2 : Int32) (x3 : Int32) (x4 : Int32) (s0 : Int32) (s1 : Int32) (s2 : Int32) (σ : aH) : Lq G d M_226 (96, [some (.ref 33), some (.int x1), some (.int x2), some (.int x3), some (.int x4)], [.int s0, .int s1, .int s2], σ) = aCI (Rn G d 229 [.int s2, .int s1, .int s0] σ) fun v2 σ1 => Lq G d M_226 (99, [some (.ref 33), some (.int x1), some (.int x2), some (.int x3), some (.int x4)], [.int v2], σ1) :=
  (aUn_eq (tkd G.1 G.2) tmi (aRun (tkd G.1 G.2) tmi tmt d) M_226 [] 1 (96, [some (.ref 33), some (.int x1), some (.int x2), some (.int x3), some (.int x4)], [.int s0, .int s1, .int s2], σ)).trans rfl
set_option maxRecDepth 20000 in
theorem q_226_2886 (G : Nat × (Nat → Int32)) (d : Nat) (x1 : Int32) (x2 : Int32) (x3 : Int32) (x4 : Int32) (s0 : Int32) (σ : aH) : Lq G d M_226 (99, [some (.ref 33), some (.int x1), some (.int x2), some (.int x3), some (.int x4)], [.int s0], σ) = Lq G d M_226 (103, [some (.ref 33), some (.int x1), some (.int x2), some (.int s0), some (.int (x4 + (1 : Int32)))], [], σ) :=
  (aUn_eq (tkd G.1 G.2) tmi (aRun (tkd G.1 G.2) tmi tmt d) M_226 [] 2 (99, [some (.ref 33), some (.int x1), some (.int x2), some (.int x3), some (.int x4)], [.int s0], σ)).trans rfl
set_option maxRecDepth 20000 in
theorem q_226_2887 (G : Nat × (Nat → Int32)) (d : Nat) (x1 : Int32) (x2 : Int32) (x3 : Int32) (x4 : Int32) (σ : aH) : Lq G d M_226 (103, [some (.ref 33), some (.int x1), some (.int x2), some (.int x3), some (.int x4)], [], σ) = Lq G d M_226 (65, [some (.ref 33), some (.int x1), some (.int x2), some (.int x3), some (.int x4)], [], σ) :=
  (aUn_eq (tkd G.1 G.2) tmi (aRun (tkd G.1 G.2) tmi tmt d) M_226 [] 1 (103, [some (.ref 33), some (.int x1), some (.int x2), some (.int x3), some (.int x4)], [], σ)).trans rfl
set_option maxRecDepth 20000 in
theorem q_232_2888 (G : Nat × (Nat → Int32)) (d : Nat) (x1 : Int32) (σ : aH) : Lq G d M_232 (0, [some (.ref 0), some (.int x1), none], [], σ) = Lq G d M_232 (2, [some (.ref 0), some (.int x1), some (.int (0 : Int32))], [], σ) :=
  (aUn_eq (tkd G.1 G.2) tmi (aRun (tkd G.1 G.2) tmi tmt d) M_232 [] 2 (0, [some (.ref 0), some (.int x1), none], [], σ)).trans rfl
set_option maxRecDepth 20000 in
theorem q_232_2889 (G : Nat × (Nat → Int32)) (d : Nat) (x1 : Int32) (x2 : Int32) (σ : aH) : Lq G d M_232 (2, [some (.ref 0), some (.int x1), some (.int x2)], [], σ) = Lq G d M_232 (10, [some (.ref 0), some (.int x1), some (.int x2)], [.int (σ.1 13 1), .int x2], σ) :=
  (aUn_eq (tkd G.1 G.2) tmi (aRun (tkd G.1 G.2) tmi tmt d) M_232 [] 4 (2, [some (.ref 0), some (.int x1), some (.int x2)], [], σ)).trans rfl
set_option maxRecDepth 20000 in
theorem q_232_2890 (G : Nat × (Nat → Int32)) (d : Nat) (x1 : Int32) (x2 : Int32) (s0 : Int32) (s1 : Int32) (σ : aH) : Lq G d M_232 (10, [some (.ref 0), some (.int x1), some (.int x2)], [.int s0, .int s1], σ) = if s0 ≤ s1 then Lq G d M_232 (84, [some (.ref 0), some (.int x1), some (.int x2)], [], σ) else Lq G d M_232 (13, [some (.ref 0), some (.int x1), some (.int x2)], [], σ) :=
  (aUn_eq (tkd G.1 G.2) tmi (aRun (tkd G.1 G.2) tmi tmt d) M_232 [] 1 (10, [some (.ref 0), some (.int x1), some (.int x2)], [.int s0, .int s1], σ)).trans rfl
set_option maxRecDepth 20000 in
theorem q_232_2891 (G : Nat × (Nat → Int32)) (d : Nat) (x1 : Int32) (x2 : Int32) (σ : aH) : Lq G d M_232 (84, [some (.ref 0), some (.int x1), some (.int x2)], [], σ) = some (.inl none, σ) :=
  (aUn_eq (tkd G.1 G.2) tmi (aRun (tkd G.1 G.2) tmi tmt d) M_232 [] 1 (84, [some (.ref 0), some (.int x1), some (.int x2)], [], σ)).trans rfl
set_option maxRecDepth 20000 in
theorem q_232_2892 (G : Nat × (Nat → Int32)) (d : Nat) (x1 : Int32) (x2 : Int32) (σ : aH) : Lq G d M_232 (13, [some (.ref 0), some (.int x1), some (.int x2)], [], σ) = Lq G d M_232 (18, [some (.ref 0), some (.int x1), some (.int x2)], [.int x2, .ref 17], σ) :=
  (aUn_eq (tkd G.1 G.2) tmi (aRun (tkd G.1 G.2) tmi tmt d) M_232 [] 3 (13, [some (.ref 0), some (.int x1), some (.int x2)], [], σ)).trans rfl
set_option maxRecDepth 20000 in
theorem q_232_2893 (G : Nat × (Nat → Int32)) (d : Nat) (x1 : Int32) (x2 : Int32) (s0 : Int32) (σ : aH) : Lq G d M_232 (18, [some (.ref 0), some (.int x1), some (.int x2)], [.int s0, .ref 17], σ) = aCI (Rn G d 220 [.ref 17, .int s0] σ) fun v2 σ1 => Lq G d M_232 (21, [some (.ref 0), some (.int x1), some (.int x2)], [.int v2], σ1) :=
  (aUn_eq (tkd G.1 G.2) tmi (aRun (tkd G.1 G.2) tmi tmt d) M_232 [] 1 (18, [some (.ref 0), some (.int x1), some (.int x2)], [.int s0, .ref 17], σ)).trans rfl
set_option maxRecDepth 20000 in
theorem q_232_2894 (G : Nat × (Nat → Int32)) (d : Nat) (x1 : Int32) (x2 : Int32) (s0 : Int32) (σ : aH) : Lq G d M_232 (21, [some (.ref 0), some (.int x1), some (.int x2)], [.int s0], σ) = if s0 = 0 then Lq G d M_232 (78, [some (.ref 0), some (.int x1), some (.int x2)], [], σ) else Lq G d M_232 (24, [some (.ref 0), some (.int x1), some (.int x2)], [], σ) :=
  (aUn_eq (tkd G.1 G.2) tmi (aRun (tkd G.1 G.2) tmi tmt d) M_232 [] 1 (21, [some (.ref 0), some (.int x1), some (.int x2)], [.int s0], σ)).trans rfl
set_option maxRecDepth 20000 in
theorem q_232_2895 (G : Nat × (Nat → Int32)) (d : Nat) (x1 : Int32) (x2 : Int32) (σ : aH) : Lq G d M_232 (78, [some (.ref 0), some (.int x1), some (.int x2)], [], σ) = Lq G d M_232 (2, [some (.ref 0), some (.int x1), some (.int (x2 + (1 : Int32)))], [], σ) :=
  (aUn_eq (tkd G.1 G.2) tmi (aRun (tkd G.1 G.2) tmi tmt d) M_232 [] 2 (78, [some (.ref 0), some (.int x1), some (.int x2)], [], σ)).trans rfl
set_option maxRecDepth 20000 in
theorem q_232_2896 (G : Nat × (Nat → Int32)) (d : Nat) (x1 : Int32) (x2 : Int32) (σ : aH) : Lq G d M_232 (24, [some (.ref 0), some (.int x1), some (.int x2)], [], σ) = Lq G d M_232 (40, [some (.ref 0), some (.int x1), some (.int x2)], [.int (16 : Int32), .int x2, .ref 13, .int x1, .ref 3, .ref 24], σ) :=
  (aUn_eq (tkd G.1 G.2) tmi (aRun (tkd G.1 G.2) tmi tmt d) M_232 [] 9 (24, [some (.ref 0), some (.int x1), some (.int x2)], [], σ)).trans rfl
set_option maxRecDepth 20000 in
theorem q_232_2897 (G : Nat × (Nat → Int32)) (d : Nat) (x1 : Int32) (x2 : Int32) (s0 : Int32) (s1 : Int32) (s3 : Int32) (σ : aH) : Lq G d M_232 (40, [some (.ref 0), some (.int x1), some (.int x2)], [.int s0, .int s1, .ref 13, .int s3, .ref 3, .ref 24], σ) = aCI (Rn G d 117 [.ref 13, .int s1, .int s0] σ) fun v2 σ1 => Lq G d M_232 (43, [some (.ref 0), some (.int x1), some (.int x2)], [.int v2, .int s3, .ref 3, .ref 24], σ1) :=
  (aUn_eq (tkd G.1 G.2) tmi (aRun (tkd G.1 G.2) tmi tmt d) M_232 [] 1 (40, [some (.ref 0), some (.int x1), some (.int x2)], [.int s0, .int s1, .ref 13, .int s3, .ref 3, .ref 24], σ)).trans rfl
set_option maxRecDepth 20000 in
theorem q_232_2898 (G : Nat × (Nat → Int32)) (d : Nat) (x1 : Int32) (x2 : Int32) (s0 : Int32) (s1 : Int32) (σ : aH) : Lq G d M_232 (43, [some (.ref 0), some (.int x1), some (.int x2)], [.int s0, .int s1, .ref 3, .ref 24], σ) = Lq G d M_232 (50, [some (.ref 0), some (.int x1), some (.int x2)], [.int (17 : Int32), .int x2, .ref 13, .int s0, .int s1, .ref 3, .ref 24], σ) :=
  (aUn_eq (tkd G.1 G.2) tmi (aRun (tkd G.1 G.2) tmi tmt d) M_232 [] 4 (43, [some (.ref 0), some (.int x1), some (.int x2)], [.int s0, .int s1, .ref 3, .ref 24], σ)).trans rfl
set_option maxRecDepth 20000 in
theorem q_232_2899 (G : Nat × (Nat → Int32)) (d : Nat) (x1 : Int32) (x2 : Int32) (s0 : Int32) (s1 : Int32) (s3 : Int32) (s4 : Int32) (σ : aH) : Lq G d M_232 (50, [some (.ref 0), some (.int x1), some (.int x2)], [.int s0, .int s1, .ref 13, .int s3, .int s4, .ref 3, .ref 24], σ) = aCI (Rn G d 117 [.ref 13, .int s1, .int s0] σ) fun v2 σ1 => Lq G d M_232 (53, [some (.ref 0), some (.int x1), some (.int x2)], [.int v2, .int s3, .int s4, .ref 3, .ref 24], σ1) :=
  (aUn_eq (tkd G.1 G.2) tmi (aRun (tkd G.1 G.2) tmi tmt d) M_232 [] 1 (50, [some (.ref 0), some (.int x1), some (.int x2)], [.int s0, .int s1, .ref 13, .int s3, .int s4, .ref 3, .ref 24], σ)).trans rfl
set_option maxRecDepth 20000 in
theorem q_232_2900 (G : Nat × (Nat → Int32)) (d : Nat) (x1 : Int32) (x2 : Int32) (s0 : Int32) (s1 : Int32) (s2 : Int32) (σ : aH) : Lq G d M_232 (53, [some (.ref 0), some (.int x1), some (.int x2)], [.int s0, .int s1, .int s2, .ref 3, .ref 24], σ) = aCV (Rn G d 158 [.ref 24, .ref 3, .int s2, .int s1, .int s0] σ) fun σ1 => Lq G d M_232 (56, [some (.ref 0), some (.int x1), some (.int x2)], [], σ1) :=
  (aUn_eq (tkd G.1 G.2) tmi (aRun (tkd G.1 G.2) tmi tmt d) M_232 [] 1 (53, [some (.ref 0), some (.int x1), some (.int x2)], [.int s0, .int s1, .int s2, .ref 3, .ref 24], σ)).trans rfl
set_option maxRecDepth 20000 in
theorem q_232_2901 (G : Nat × (Nat → Int32)) (d : Nat) (x1 : Int32) (x2 : Int32) (σ : aH) : Lq G d M_232 (56, [some (.ref 0), some (.int x1), some (.int x2)], [], σ) = Lq G d M_232 (60, [some (.ref 0), some (.int x1), some (.int x2)], [.ref 24], σ) :=
  (aUn_eq (tkd G.1 G.2) tmi (aRun (tkd G.1 G.2) tmi tmt d) M_232 [] 2 (56, [some (.ref 0), some (.int x1), some (.int x2)], [], σ)).trans rfl
set_option maxRecDepth 20000 in
theorem q_232_2902 (G : Nat × (Nat → Int32)) (d : Nat) (x1 : Int32) (x2 : Int32) (σ : aH) : Lq G d M_232 (60, [some (.ref 0), some (.int x1), some (.int x2)], [.ref 24], σ) = aCV (Rn G d 176 [.ref 24] σ) fun σ1 => Lq G d M_232 (63, [some (.ref 0), some (.int x1), some (.int x2)], [], σ1) :=
  (aUn_eq (tkd G.1 G.2) tmi (aRun (tkd G.1 G.2) tmi tmt d) M_232 [] 1 (60, [some (.ref 0), some (.int x1), some (.int x2)], [.ref 24], σ)).trans rfl
set_option maxRecDepth 20000 in
theorem q_232_2903 (G : Nat × (Nat → Int32)) (d : Nat) (x1 : Int32) (x2 : Int32) (σ : aH) : Lq G d M_232 (63, [some (.ref 0), some (.int x1), some (.int x2)], [], σ) = Lq G d M_232 (72, [some (.ref 0), some (.int x1), some (.int x2)], [.ref 24, .int x2, .ref 28], σ) :=
  (aUn_eq (tkd G.1 G.2) tmi (aRun (tkd G.1 G.2) tmi tmt d) M_232 [] 5 (63, [some (.ref 0), some (.int x1), some (.int x2)], [], σ)).trans rfl
set_option maxRecDepth 20000 in
theorem q_232_2904 (G : Nat × (Nat → Int32)) (d : Nat) (x1 : Int32) (x2 : Int32) (s1 : Int32) (σ : aH) : Lq G d M_232 (72, [some (.ref 0), some (.int x1), some (.int x2)], [.ref 24, .int s1, .ref 28], σ) = aCI (Rn G d 177 [.ref 24] σ) fun v2 σ1 => Lq G d M_232 (75, [some (.ref 0), some (.int x1), some (.int x2)], [.int v2, .int s1, .ref 28], σ1) :=
  (aUn_eq (tkd G.1 G.2) tmi (aRun (tkd G.1 G.2) tmi tmt d) M_232 [] 1 (72, [some (.ref 0), some (.int x1), some (.int x2)], [.ref 24, .int s1, .ref 28], σ)).trans rfl
set_option maxRecDepth 20000 in
theorem q_232_2905 (G : Nat × (Nat → Int32)) (d : Nat) (x1 : Int32) (x2 : Int32) (s0 : Int32) (s1 : Int32) (σ : aH) : Lq G d M_232 (75, [some (.ref 0), some (.int x1), some (.int x2)], [.int s0, .int s1, .ref 28], σ) = aCV (Rn G d 24 [.ref 28, .int s1, .int s0] σ) fun σ1 => Lq G d M_232 (78, [some (.ref 0), some (.int x1), some (.int x2)], [], σ1) :=
  (aUn_eq (tkd G.1 G.2) tmi (aRun (tkd G.1 G.2) tmi tmt d) M_232 [] 1 (75, [some (.ref 0), some (.int x1), some (.int x2)], [.int s0, .int s1, .ref 28], σ)).trans rfl
set_option maxRecDepth 20000 in
theorem q_233_2906 (G : Nat × (Nat → Int32)) (d : Nat)  (σ : aH) : Lq G d M_233 (0, [some (.ref 0), none, none], [], σ) = Lq G d M_233 (4, [some (.ref 0), some (.int (0 : Int32)), some (.int (0 : Int32))], [], σ) :=
  (aUn_eq (tkd G.1 G.2) tmi (aRun (tkd G.1 G.2) tmi tmt d) M_233 [] 4 (0, [some (.ref 0), none, none], [], σ)).trans rfl
set_option maxRecDepth 20000 in
theorem q_233_2907 (G : Nat × (Nat → Int32)) (d : Nat) (x1 : Int32) (x2 : Int32) (σ : aH) : Lq G d M_233 (4, [some (.ref 0), some (.int x1), some (.int x2)], [], σ) = Lq G d M_233 (12, [some (.ref 0), some (.int x1), some (.int x2)], [.int (σ.1 13 1), .int x2], σ) :=
  (aUn_eq (tkd G.1 G.2) tmi (aRun (tkd G.1 G.2) tmi tmt d) M_233 [] 4 (4, [some (.ref 0), some (.int x1), some (.int x2)], [], σ)).trans rfl
set_option maxRecDepth 20000 in
theorem q_233_2908 (G : Nat × (Nat → Int32)) (d : Nat) (x1 : Int32) (x2 : Int32) (s0 : Int32) (s1 : Int32) (σ : aH) : Lq G d M_233 (12, [some (.ref 0), some (.int x1), some (.int x2)], [.int s0, .int s1], σ) = if s0 ≤ s1 then Lq G d M_233 (56, [some (.ref 0), some (.int x1), some (.int x2)], [], σ) else Lq G d M_233 (15, [some (.ref 0), some (.int x1), some (.int x2)], [], σ) :=
  (aUn_eq (tkd G.1 G.2) tmi (aRun (tkd G.1 G.2) tmi tmt d) M_233 [] 1 (12, [some (.ref 0), some (.int x1), some (.int x2)], [.int s0, .int s1], σ)).trans rfl
set_option maxRecDepth 20000 in
theorem q_233_2909 (G : Nat × (Nat → Int32)) (d : Nat) (x1 : Int32) (x2 : Int32) (σ : aH) : Lq G d M_233 (56, [some (.ref 0), some (.int x1), some (.int x2)], [], σ) = Lq G d M_233 (57, [some (.ref 0), some (.int x1), some (.int x2)], [.int x1], σ) :=
  (aUn_eq (tkd G.1 G.2) tmi (aRun (tkd G.1 G.2) tmi tmt d) M_233 [] 1 (56, [some (.ref 0), some (.int x1), some (.int x2)], [], σ)).trans rfl
set_option maxRecDepth 20000 in
theorem q_233_2910 (G : Nat × (Nat → Int32)) (d : Nat) (x1 : Int32) (x2 : Int32) (s0 : Int32) (σ : aH) : Lq G d M_233 (57, [some (.ref 0), some (.int x1), some (.int x2)], [.int s0], σ) = some (.inl (some (.int s0)), σ) :=
  (aUn_eq (tkd G.1 G.2) tmi (aRun (tkd G.1 G.2) tmi tmt d) M_233 [] 1 (57, [some (.ref 0), some (.int x1), some (.int x2)], [.int s0], σ)).trans rfl
set_option maxRecDepth 20000 in
theorem q_233_2911 (G : Nat × (Nat → Int32)) (d : Nat) (x1 : Int32) (x2 : Int32) (σ : aH) : Lq G d M_233 (15, [some (.ref 0), some (.int x1), some (.int x2)], [], σ) = Lq G d M_233 (20, [some (.ref 0), some (.int x1), some (.int x2)], [.int x2, .ref 17], σ) :=
  (aUn_eq (tkd G.1 G.2) tmi (aRun (tkd G.1 G.2) tmi tmt d) M_233 [] 3 (15, [some (.ref 0), some (.int x1), some (.int x2)], [], σ)).trans rfl
set_option maxRecDepth 20000 in
theorem q_233_2912 (G : Nat × (Nat → Int32)) (d : Nat) (x1 : Int32) (x2 : Int32) (s0 : Int32) (σ : aH) : Lq G d M_233 (20, [some (.ref 0), some (.int x1), some (.int x2)], [.int s0, .ref 17], σ) = aCI (Rn G d 220 [.ref 17, .int s0] σ) fun v2 σ1 => Lq G d M_233 (23, [some (.ref 0), some (.int x1), some (.int x2)], [.int v2], σ1) :=
  (aUn_eq (tkd G.1 G.2) tmi (aRun (tkd G.1 G.2) tmi tmt d) M_233 [] 1 (20, [some (.ref 0), some (.int x1), some (.int x2)], [.int s0, .ref 17], σ)).trans rfl
set_option maxRecDepth 20000 in
theorem q_233_2913 (G : Nat × (Nat → Int32)) (d : Nat) (x1 : Int32) (x2 : Int32) (s0 : Int32) (σ : aH) : Lq G d M_233 (23, [some (.ref 0), some (.int x1), some (.int x2)], [.int s0], σ) = if s0 = 0 then Lq G d M_233 (50, [some (.ref 0), some (.int x1), some (.int x2)], [], σ) else Lq G d M_233 (26, [some (.ref 0), some (.int x1), some (.int x2)], [], σ) :=
  (aUn_eq (tkd G.1 G.2) tmi (aRun (tkd G.1 G.2) tmi tmt d) M_233 [] 1 (23, [some (.ref 0), some (.int x1), some (.int x2)], [.int s0], σ)).trans rfl
set_option maxRecDepth 20000 in
theorem q_233_2914 (G : Nat × (Nat → Int32)) (d : Nat) (x1 : Int32) (x2 : Int32) (σ : aH) : Lq G d M_233 (50, [some (.ref 0), some (.int x1), some (.int x2)], [], σ) = Lq G d M_233 (4, [some (.ref 0), some (.int x1), some (.int (x2 + (1 : Int32)))], [], σ) :=
  (aUn_eq (tkd G.1 G.2) tmi (aRun (tkd G.1 G.2) tmi tmt d) M_233 [] 2 (50, [some (.ref 0), some (.int x1), some (.int x2)], [], σ)).trans rfl
set_option maxRecDepth 20000 in
theorem q_233_2915 (G : Nat × (Nat → Int32)) (d : Nat) (x1 : Int32) (x2 : Int32) (σ : aH) : Lq G d M_233 (26, [some (.ref 0), some (.int x1), some (.int x2)], [], σ) = Lq G d M_233 (34, [some (.ref 0), some (.int x1), some (.int x2)], [.int (12 : Int32), .int x2, .ref 13, .int x1], σ) :=
  (aUn_eq (tkd G.1 G.2) tmi (aRun (tkd G.1 G.2) tmi tmt d) M_233 [] 5 (26, [some (.ref 0), some (.int x1), some (.int x2)], [], σ)).trans rfl
set_option maxRecDepth 20000 in
theorem q_233_2916 (G : Nat × (Nat → Int32)) (d : Nat) (x1 : Int32) (x2 : Int32) (s0 : Int32) (s1 : Int32) (s3 : Int32) (σ : aH) : Lq G d M_233 (34, [some (.ref 0), some (.int x1), some (.int x2)], [.int s0, .int s1, .ref 13, .int s3], σ) = aCI (Rn G d 117 [.ref 13, .int s1, .int s0] σ) fun v2 σ1 => Lq G d M_233 (37, [some (.ref 0), some (.int x1), some (.int x2)], [.int v2, .int s3], σ1) :=
  (aUn_eq (tkd G.1 G.2) tmi (aRun (tkd G.1 G.2) tmi tmt d) M_233 [] 1 (34, [some (.ref 0), some (.int x1), some (.int x2)], [.int s0, .int s1, .ref 13, .int s3], σ)).trans rfl
set_option maxRecDepth 20000 in
theorem q_233_2917 (G : Nat × (Nat → Int32)) (d : Nat) (x1 : Int32) (x2 : Int32) (s0 : Int32) (s1 : Int32) (σ : aH) : Lq G d M_233 (37, [some (.ref 0), some (.int x1), some (.int x2)], [.int s0, .int s1], σ) = Lq G d M_233 (42, [some (.ref 0), some (.int x1), some (.int x2)], [.int x2, .ref 28, .int s0, .int s1], σ) :=
  (aUn_eq (tkd G.1 G.2) tmi (aRun (tkd G.1 G.2) tmi tmt d) M_233 [] 3 (37, [some (.ref 0), some (.int x1), some (.int x2)], [.int s0, .int s1], σ)).trans rfl
set_option maxRecDepth 20000 in
theorem q_233_2918 (G : Nat × (Nat → Int32)) (d : Nat) (x1 : Int32) (x2 : Int32) (s0 : Int32) (s2 : Int32) (s3 : Int32) (σ : aH) : Lq G d M_233 (42, [some (.ref 0), some (.int x1), some (.int x2)], [.int s0, .ref 28, .int s2, .int s3], σ) = aCI (Rn G d 32 [.ref 28, .int s0] σ) fun v2 σ1 => Lq G d M_233 (45, [some (.ref 0), some (.int x1), some (.int x2)], [.int v2, .int s2, .int s3], σ1) :=
  (aUn_eq (tkd G.1 G.2) tmi (aRun (tkd G.1 G.2) tmi tmt d) M_233 [] 1 (42, [some (.ref 0), some (.int x1), some (.int x2)], [.int s0, .ref 28, .int s2, .int s3], σ)).trans rfl
set_option maxRecDepth 20000 in
theorem q_233_2919 (G : Nat × (Nat → Int32)) (d : Nat) (x1 : Int32) (x2 : Int32) (s0 : Int32) (s1 : Int32) (s2 : Int32) (σ : aH) : Lq G d M_233 (45, [some (.ref 0), some (.int x1), some (.int x2)], [.int s0, .int s1, .int s2], σ) = aCI (Rn G d 234 [.int s1, .int s0] σ) fun v2 σ1 => Lq G d M_233 (48, [some (.ref 0), some (.int x1), some (.int x2)], [.int v2, .int s2], σ1) :=
  (aUn_eq (tkd G.1 G.2) tmi (aRun (tkd G.1 G.2) tmi tmt d) M_233 [] 1 (45, [some (.ref 0), some (.int x1), some (.int x2)], [.int s0, .int s1, .int s2], σ)).trans rfl
set_option maxRecDepth 20000 in
theorem q_233_2920 (G : Nat × (Nat → Int32)) (d : Nat) (x1 : Int32) (x2 : Int32) (s0 : Int32) (s1 : Int32) (σ : aH) : Lq G d M_233 (48, [some (.ref 0), some (.int x1), some (.int x2)], [.int s0, .int s1], σ) = Lq G d M_233 (53, [some (.ref 0), some (.int (s1 + s0)), some (.int (x2 + (1 : Int32)))], [], σ) :=
  (aUn_eq (tkd G.1 G.2) tmi (aRun (tkd G.1 G.2) tmi tmt d) M_233 [] 3 (48, [some (.ref 0), some (.int x1), some (.int x2)], [.int s0, .int s1], σ)).trans rfl
set_option maxRecDepth 20000 in
theorem q_233_2921 (G : Nat × (Nat → Int32)) (d : Nat) (x1 : Int32) (x2 : Int32) (σ : aH) : Lq G d M_233 (53, [some (.ref 0), some (.int x1), some (.int x2)], [], σ) = Lq G d M_233 (4, [some (.ref 0), some (.int x1), some (.int x2)], [], σ) :=
  (aUn_eq (tkd G.1 G.2) tmi (aRun (tkd G.1 G.2) tmi tmt d) M_233 [] 1 (53, [some (.ref 0), some (.int x1), some (.int x2)], [], σ)).trans rfl
set_option maxRecDepth 20000 in
theorem q_235_2922 (G : Nat × (Nat → Int32)) (d : Nat) (x1 : Int32) (σ : aH) : Lq G d M_235 (0, [some (.ref 0), some (.int x1), none, none, none, none], [], σ) = Lq G d M_235 (4, [some (.ref 0), some (.int x1), some (.int (0 : Int32)), some (.int (0 : Int32)), none, none], [], σ) :=
  (aUn_eq (tkd G.1 G.2) tmi (aRun (tkd G.1 G.2) tmi tmt d) M_235 [] 4 (0, [some (.ref 0), some (.int x1), none, none, none, none], [], σ)).trans rfl
set_option maxRecDepth 20000 in
theorem q_235_2923 (G : Nat × (Nat → Int32)) (d : Nat) (x1 : Int32) (x2 : Int32) (x3 : Int32) (σ : aH) : Lq G d M_235 (4, [some (.ref 0), some (.int x1), some (.int x2), some (.int x3), none, none], [], σ) = Lq G d M_235 (12, [some (.ref 0), some (.int x1), some (.int x2), some (.int x3), none, none], [.int (σ.1 13 1), .int x3], σ) :=
  (aUn_eq (tkd G.1 G.2) tmi (aRun (tkd G.1 G.2) tmi tmt d) M_235 [] 4 (4, [some (.ref 0), some (.int x1), some (.int x2), some (.int x3), none, none], [], σ)).trans rfl
set_option maxRecDepth 20000 in
theorem q_235_2924 (G : Nat × (Nat → Int32)) (d : Nat) (x1 : Int32) (x2 : Int32) (x3 : Int32) (s0 : Int32) (s1 : Int32) (σ : aH) : Lq G d M_235 (12, [some (.ref 0), some (.int x1), some (.int x2), some (.int x3), none, none], [.int s0, .int s1], σ) = if s0 ≤ s1 then Lq G d M_235 (117, [some (.ref 0), some (.int x1), some (.int x2), some (.int x3), none, none], [], σ) else Lq G d M_235 (15, [some (.ref 0), some (.int x1), some (.int x2), some (.int x3), none, none], [], σ) :=
  (aUn_eq (tkd G.1 G.2) tmi (aRun (tkd G.1 G.2) tmi tmt d) M_235 [] 1 (12, [some (.ref 0), some (.int x1), some (.int x2), some (.int x3), none, none], [.int s0, .int s1], σ)).trans rfl
set_option maxRecDepth 20000 in
theorem q_235_2925 (G : Nat × (Nat → Int32)) (d : Nat) (x1 : Int32) (x2 : Int32) (x3 : Int32) (σ : aH) : Lq G d M_235 (117, [some (.ref 0), some (.int x1), some (.int x2), some (.int x3), none, none], [], σ) = Lq G d M_235 (118, [some (.ref 0), some (.int x1), some (.int x2), some (.int x3), none, none], [.int x2], σ) :=
  (aUn_eq (tkd G.1 G.2) tmi (aRun (tkd G.1 G.2) tmi tmt d) M_235 [] 1 (117, [some (.ref 0), some (.int x1), some (.int x2), some (.int x3), none, none], [], σ)).trans rfl
set_option maxRecDepth 20000 in
theorem q_235_2926 (G : Nat × (Nat → Int32)) (d : Nat) (x1 : Int32) (x2 : Int32) (x3 : Int32) (s0 : Int32) (σ : aH) : Lq G d M_235 (118, [some (.ref 0), some (.int x1), some (.int x2), some (.int x3), none, none], [.int s0], σ) = some (.inl (some (.int s0)), σ) :=
  (aUn_eq (tkd G.1 G.2) tmi (aRun (tkd G.1 G.2) tmi tmt d) M_235 [] 1 (118, [some (.ref 0), some (.int x1), some (.int x2), some (.int x3), none, none], [.int s0], σ)).trans rfl
set_option maxRecDepth 20000 in
theorem q_235_2927 (G : Nat × (Nat → Int32)) (d : Nat) (x1 : Int32) (x2 : Int32) (x3 : Int32) (σ : aH) : Lq G d M_235 (15, [some (.ref 0), some (.int x1), some (.int x2), some (.int x3), none, none], [], σ) = Lq G d M_235 (20, [some (.ref 0), some (.int x1), some (.int x2), some (.int x3), some (.int (x3 + (1 : Int32))), none], [], σ) :=
  (aUn_eq (tkd G.1 G.2) tmi (aRun (tkd G.1 G.2) tmi tmt d) M_235 [] 4 (15, [some (.ref 0), some (.int x1), some (.int x2), some (.int x3), none, none], [], σ)).trans rfl
set_option maxRecDepth 20000 in
theorem q_235_2928 (G : Nat × (Nat → Int32)) (d : Nat) (x1 : Int32) (x2 : Int32) (x3 : Int32) (x4 : Int32) (σ : aH) : Lq G d M_235 (20, [some (.ref 0), some (.int x1), some (.int x2), some (.int x3), some (.int x4), none], [], σ) = Lq G d M_235 (29, [some (.ref 0), some (.int x1), some (.int x2), some (.int x3), some (.int x4), none], [.int (σ.1 13 1), .int x4], σ) :=
  (aUn_eq (tkd G.1 G.2) tmi (aRun (tkd G.1 G.2) tmi tmt d) M_235 [] 4 (20, [some (.ref 0), some (.int x1), some (.int x2), some (.int x3), some (.int x4), none], [], σ)).trans rfl
set_option maxRecDepth 20000 in
theorem q_235_2929 (G : Nat × (Nat → Int32)) (d : Nat) (x1 : Int32) (x2 : Int32) (x3 : Int32) (x4 : Int32) (s0 : Int32) (s1 : Int32) (σ : aH) : Lq G d M_235 (29, [some (.ref 0), some (.int x1), some (.int x2), some (.int x3), some (.int x4), none], [.int s0, .int s1], σ) = if s0 ≤ s1 then Lq G d M_235 (111, [some (.ref 0), some (.int x1), some (.int x2), some (.int x3), some (.int x4), none], [], σ) else Lq G d M_235 (32, [some (.ref 0), some (.int x1), some (.int x2), some (.int x3), some (.int x4), none], [], σ) :=
  (aUn_eq (tkd G.1 G.2) tmi (aRun (tkd G.1 G.2) tmi tmt d) M_235 [] 1 (29, [some (.ref 0), some (.int x1), some (.int x2), some (.int x3), some (.int x4), none], [.int s0, .int s1], σ)).trans rfl
set_option maxRecDepth 20000 in
theorem q_235_2930 (G : Nat × (Nat → Int32)) (d : Nat) (x1 : Int32) (x2 : Int32) (x3 : Int32) (x4 : Int32) (σ : aH) : Lq G d M_235 (111, [some (.ref 0), some (.int x1), some (.int x2), some (.int x3), some (.int x4), none], [], σ) = Lq G d M_235 (4, [some (.ref 0), some (.int x1), some (.int x2), some (.int (x3 + (1 : Int32))), none, none], [], σ) :=
  (aUn_eq (tkd G.1 G.2) tmi (aRun (tkd G.1 G.2) tmi tmt d) M_235 [] 2 (111, [some (.ref 0), some (.int x1), some (.int x2), some (.int x3), some (.int x4), none], [], σ)).trans rfl
set_option maxRecDepth 20000 in
theorem q_235_2931 (G : Nat × (Nat → Int32)) (d : Nat) (x1 : Int32) (x2 : Int32) (x3 : Int32) (x4 : Int32) (σ : aH) : Lq G d M_235 (32, [some (.ref 0), some (.int x1), some (.int x2), some (.int x3), some (.int x4), none], [], σ) = Lq G d M_235 (39, [some (.ref 0), some (.int x1), some (.int x2), some (.int x3), some (.int x4), none], [.int (17 : Int32), .int x3, .ref 13], σ) :=
  (aUn_eq (tkd G.1 G.2) tmi (aRun (tkd G.1 G.2) tmi tmt d) M_235 [] 4 (32, [some (.ref 0), some (.int x1), some (.int x2), some (.int x3), some (.int x4), none], [], σ)).trans rfl
set_option maxRecDepth 20000 in
theorem q_235_2932 (G : Nat × (Nat → Int32)) (d : Nat) (x1 : Int32) (x2 : Int32) (x3 : Int32) (x4 : Int32) (s0 : Int32) (s1 : Int32) (σ : aH) : Lq G d M_235 (39, [some (.ref 0), some (.int x1), some (.int x2), some (.int x3), some (.int x4), none], [.int s0, .int s1, .ref 13], σ) = aCI (Rn G d 117 [.ref 13, .int s1, .int s0] σ) fun v2 σ1 => Lq G d M_235 (42, [some (.ref 0), some (.int x1), some (.int x2), some (.int x3), some (.int x4), none], [.int v2], σ1) :=
  (aUn_eq (tkd G.1 G.2) tmi (aRun (tkd G.1 G.2) tmi tmt d) M_235 [] 1 (39, [some (.ref 0), some (.int x1), some (.int x2), some (.int x3), some (.int x4), none], [.int s0, .int s1, .ref 13], σ)).trans rfl
set_option maxRecDepth 20000 in
theorem q_235_2933 (G : Nat × (Nat → Int32)) (d : Nat) (x1 : Int32) (x2 : Int32) (x3 : Int32) (x4 : Int32) (s0 : Int32) (σ : aH) : Lq G d M_235 (42, [some (.ref 0), some (.int x1), some (.int x2), some (.int x3), some (.int x4), none], [.int s0], σ) = Lq G d M_235 (50, [some (.ref 0), some (.int x1), some (.int x2), some (.int x3), some (.int x4), none], [.int (17 : Int32), .int x4, .ref 13, .int s0], σ) :=
  (aUn_eq (tkd G.1 G.2) tmi (aRun (tkd G.1 G.2) tmi tmt d) M_235 [] 4 (42, [some (.ref 0), some (.int x1), some (.int x2), some (.int x3), some (.int x4), none], [.int s0], σ)).trans rfl
set_option maxRecDepth 20000 in
theorem q_235_2934 (G : Nat × (Nat → Int32)) (d : Nat) (x1 : Int32) (x2 : Int32) (x3 : Int32) (x4 : Int32) (s0 : Int32) (s1 : Int32) (s3 : Int32) (σ : aH) : Lq G d M_235 (50, [some (.ref 0), some (.int x1), some (.int x2), some (.int x3), some (.int x4), none], [.int s0, .int s1, .ref 13, .int s3], σ) = aCI (Rn G d 117 [.ref 13, .int s1, .int s0] σ) fun v2 σ1 => Lq G d M_235 (53, [some (.ref 0), some (.int x1), some (.int x2), some (.int x3), some (.int x4), none], [.int v2, .int s3], σ1) :=
  (aUn_eq (tkd G.1 G.2) tmi (aRun (tkd G.1 G.2) tmi tmt d) M_235 [] 1 (50, [some (.ref 0), some (.int x1), some (.int x2), some (.int x3), some (.int x4), none], [.int s0, .int s1, .ref 13, .int s3], σ)).trans rfl
set_option maxRecDepth 20000 in
theorem q_235_2935 (G : Nat × (Nat → Int32)) (d : Nat) (x1 : Int32) (x2 : Int32) (x3 : Int32) (x4 : Int32) (s0 : Int32) (s1 : Int32) (σ : aH) : Lq G d M_235 (53, [some (.ref 0), some (.int x1), some (.int x2), some (.int x3), some (.int x4), none], [.int s0, .int s1], σ) = if s1 = s0 then Lq G d M_235 (56, [some (.ref 0), some (.int x1), some (.int x2), some (.int x3), some (.int x4), none], [], σ) else Lq G d M_235 (60, [some (.ref 0), some (.int x1), some (.int x2), some (.int x3), some (.int x4), none], [], σ) :=
  (aUn_eq (tkd G.1 G.2) tmi (aRun (tkd G.1 G.2) tmi tmt d) M_235 [] 1 (53, [some (.ref 0), some (.int x1), some (.int x2), some (.int x3), some (.int x4), none], [.int s0, .int s1], σ)).trans rfl
set_option maxRecDepth 20000 in
theorem q_235_2936 (G : Nat × (Nat → Int32)) (d : Nat) (x1 : Int32) (x2 : Int32) (x3 : Int32) (x4 : Int32) (σ : aH) : Lq G d M_235 (56, [some (.ref 0), some (.int x1), some (.int x2), some (.int x3), some (.int x4), none], [], σ) = Lq G d M_235 (65, [some (.ref 0), some (.int x1), some (.int x2), some (.int x3), some (.int x4), some (.int (1 : Int32))], [.int (1 : Int32)], σ) :=
  (aUn_eq (tkd G.1 G.2) tmi (aRun (tkd G.1 G.2) tmi tmt d) M_235 [] 4 (56, [some (.ref 0), some (.int x1), some (.int x2), some (.int x3), some (.int x4), none], [], σ)).trans rfl
set_option maxRecDepth 20000 in
theorem q_235_2937 (G : Nat × (Nat → Int32)) (d : Nat) (x1 : Int32) (x2 : Int32) (x3 : Int32) (x4 : Int32) (x5 : Int32) (s0 : Int32) (σ : aH) : Lq G d M_235 (65, [some (.ref 0), some (.int x1), some (.int x2), some (.int x3), some (.int x4), some (.int x5)], [.int s0], σ) = if s0 = 0 then Lq G d M_235 (105, [some (.ref 0), some (.int x1), some (.int x2), some (.int x3), some (.int x4), some (.int x5)], [], σ) else Lq G d M_235 (68, [some (.ref 0), some (.int x1), some (.int x2), some (.int x3), some (.int x4), some (.int x5)], [], σ) :=
  (aUn_eq (tkd G.1 G.2) tmi (aRun (tkd G.1 G.2) tmi tmt d) M_235 [] 1 (65, [some (.ref 0), some (.int x1), some (.int x2), some (.int x3), some (.int x4), some (.int x5)], [.int s0], σ)).trans rfl
set_option maxRecDepth 20000 in
theorem q_235_2938 (G : Nat × (Nat → Int32)) (d : Nat) (x1 : Int32) (x2 : Int32) (x3 : Int32) (x4 : Int32) (x5 : Int32) (σ : aH) : Lq G d M_235 (105, [some (.ref 0), some (.int x1), some (.int x2), some (.int x3), some (.int x4), some (.int x5)], [], σ) = Lq G d M_235 (20, [some (.ref 0), some (.int x1), some (.int x2), some (.int x3), some (.int (x4 + (1 : Int32))), none], [], σ) :=
  (aUn_eq (tkd G.1 G.2) tmi (aRun (tkd G.1 G.2) tmi tmt d) M_235 [] 2 (105, [some (.ref 0), some (.int x1), some (.int x2), some (.int x3), some (.int x4), some (.int x5)], [], σ)).trans rfl
set_option maxRecDepth 20000 in
theorem q_235_2939 (G : Nat × (Nat → Int32)) (d : Nat) (x1 : Int32) (x2 : Int32) (x3 : Int32) (x4 : Int32) (x5 : Int32) (σ : aH) : Lq G d M_235 (68, [some (.ref 0), some (.int x1), some (.int x2), some (.int x3), some (.int x4), some (.int x5)], [], σ) = Lq G d M_235 (73, [some (.ref 0), some (.int x1), some (.int x2), some (.int x3), some (.int x4), some (.int x5)], [.int x3, .ref 17], σ) :=
  (aUn_eq (tkd G.1 G.2) tmi (aRun (tkd G.1 G.2) tmi tmt d) M_235 [] 3 (68, [some (.ref 0), some (.int x1), some (.int x2), some (.int x3), some (.int x4), some (.int x5)], [], σ)).trans rfl
set_option maxRecDepth 20000 in
theorem q_235_2940 (G : Nat × (Nat → Int32)) (d : Nat) (x1 : Int32) (x2 : Int32) (x3 : Int32) (x4 : Int32) (x5 : Int32) (s0 : Int32) (σ : aH) : Lq G d M_235 (73, [some (.ref 0), some (.int x1), some (.int x2), some (.int x3), some (.int x4), some (.int x5)], [.int s0, .ref 17], σ) = aCI (Rn G d 220 [.ref 17, .int s0] σ) fun v2 σ1 => Lq G d M_235 (76, [some (.ref 0), some (.int x1), some (.int x2), some (.int x3), some (.int x4), some (.int x5)], [.int v2], σ1) :=
  (aUn_eq (tkd G.1 G.2) tmi (aRun (tkd G.1 G.2) tmi tmt d) M_235 [] 1 (73, [some (.ref 0), some (.int x1), some (.int x2), some (.int x3), some (.int x4), some (.int x5)], [.int s0, .ref 17], σ)).trans rfl
set_option maxRecDepth 20000 in
theorem q_235_2941 (G : Nat × (Nat → Int32)) (d : Nat) (x1 : Int32) (x2 : Int32) (x3 : Int32) (x4 : Int32) (x5 : Int32) (s0 : Int32) (σ : aH) : Lq G d M_235 (76, [some (.ref 0), some (.int x1), some (.int x2), some (.int x3), some (.int x4), some (.int x5)], [.int s0], σ) = if s0 = 0 then Lq G d M_235 (105, [some (.ref 0), some (.int x1), some (.int x2), some (.int x3), some (.int x4), some (.int x5)], [], σ) else Lq G d M_235 (79, [some (.ref 0), some (.int x1), some (.int x2), some (.int x3), some (.int x4), some (.int x5)], [], σ) :=
  (aUn_eq (tkd G.1 G.2) tmi (aRun (tkd G.1 G.2) tmi tmt d) M_235 [] 1 (76, [some (.ref 0), some (.int x1), some (.int x2), some (.int x3), some (.int x4), some (.int x5)], [.int s0], σ)).trans rfl
set_option maxRecDepth 20000 in
theorem q_235_2942 (G : Nat × (Nat → Int32)) (d : Nat) (x1 : Int32) (x2 : Int32) (x3 : Int32) (x4 : Int32) (x5 : Int32) (σ : aH) : Lq G d M_235 (79, [some (.ref 0), some (.int x1), some (.int x2), some (.int x3), some (.int x4), some (.int x5)], [], σ) = Lq G d M_235 (85, [some (.ref 0), some (.int x1), some (.int x2), some (.int x3), some (.int x4), some (.int x5)], [.int x4, .ref 17], σ) :=
  (aUn_eq (tkd G.1 G.2) tmi (aRun (tkd G.1 G.2) tmi tmt d) M_235 [] 3 (79, [some (.ref 0), some (.int x1), some (.int x2), some (.int x3), some (.int x4), some (.int x5)], [], σ)).trans rfl
set_option maxRecDepth 20000 in
theorem q_235_2943 (G : Nat × (Nat → Int32)) (d : Nat) (x1 : Int32) (x2 : Int32) (x3 : Int32) (x4 : Int32) (x5 : Int32) (s0 : Int32) (σ : aH) : Lq G d M_235 (85, [some (.ref 0), some (.int x1), some (.int x2), some (.int x3), some (.int x4), some (.int x5)], [.int s0, .ref 17], σ) = aCI (Rn G d 220 [.ref 17, .int s0] σ) fun v2 σ1 => Lq G d M_235 (88, [some (.ref 0), some (.int x1), some (.int x2), some (.int x3), some (.int x4), some (.int x5)], [.int v2], σ1) :=
  (aUn_eq (tkd G.1 G.2) tmi (aRun (tkd G.1 G.2) tmi tmt d) M_235 [] 1 (85, [some (.ref 0), some (.int x1), some (.int x2), some (.int x3), some (.int x4), some (.int x5)], [.int s0, .ref 17], σ)).trans rfl
set_option maxRecDepth 20000 in
theorem q_235_2944 (G : Nat × (Nat → Int32)) (d : Nat) (x1 : Int32) (x2 : Int32) (x3 : Int32) (x4 : Int32) (x5 : Int32) (s0 : Int32) (σ : aH) : Lq G d M_235 (88, [some (.ref 0), some (.int x1), some (.int x2), some (.int x3), some (.int x4), some (.int x5)], [.int s0], σ) = if s0 = 0 then Lq G d M_235 (105, [some (.ref 0), some (.int x1), some (.int x2), some (.int x3), some (.int x4), some (.int x5)], [], σ) else Lq G d M_235 (91, [some (.ref 0), some (.int x1), some (.int x2), some (.int x3), some (.int x4), some (.int x5)], [], σ) :=
  (aUn_eq (tkd G.1 G.2) tmi (aRun (tkd G.1 G.2) tmi tmt d) M_235 [] 1 (88, [some (.ref 0), some (.int x1), some (.int x2), some (.int x3), some (.int x4), some (.int x5)], [.int s0], σ)).trans rfl
set_option maxRecDepth 20000 in
theorem q_235_2945 (G : Nat × (Nat → Int32)) (d : Nat) (x1 : Int32) (x2 : Int32) (x3 : Int32) (x4 : Int32) (x5 : Int32) (σ : aH) : Lq G d M_235 (91, [some (.ref 0), some (.int x1), some (.int x2), some (.int x3), some (.int x4), some (.int x5)], [], σ) = Lq G d M_235 (95, [some (.ref 0), some (.int x1), some (.int x2), some (.int x3), some (.int x4), some (.int x5)], [.int x4, .int x3, .ref 0], σ) :=
  (aUn_eq (tkd G.1 G.2) tmi (aRun (tkd G.1 G.2) tmi tmt d) M_235 [] 3 (91, [some (.ref 0), some (.int x1), some (.int x2), some (.int x3), some (.int x4), some (.int x5)], [], σ)).trans rfl
set_option maxRecDepth 20000 in
theorem q_235_2946 (G : Nat × (Nat → Int32)) (d : Nat) (x1 : Int32) (x2 : Int32) (x3 : Int32) (x4 : Int32) (x5 : Int32) (s0 : Int32) (s1 : Int32) (σ : aH) : Lq G d M_235 (95, [some (.ref 0), some (.int x1), some (.int x2), some (.int x3), some (.int x4), some (.int x5)], [.int s0, .int s1, .ref 0], σ) = aCI (Rn G d 236 [.ref 0, .int s1, .int s0] σ) fun v2 σ1 => Lq G d M_235 (98, [some (.ref 0), some (.int x1), some (.int x2), some (.int x3), some (.int x4), some (.int x5)], [.int v2], σ1) :=
  (aUn_eq (tkd G.1 G.2) tmi (aRun (tkd G.1 G.2) tmi tmt d) M_235 [] 1 (95, [some (.ref 0), some (.int x1), some (.int x2), some (.int x3), some (.int x4), some (.int x5)], [.int s0, .int s1, .ref 0], σ)).trans rfl
set_option maxRecDepth 20000 in
theorem q_235_2947 (G : Nat × (Nat → Int32)) (d : Nat) (x1 : Int32) (x2 : Int32) (x3 : Int32) (x4 : Int32) (x5 : Int32) (s0 : Int32) (σ : aH) : Lq G d M_235 (98, [some (.ref 0), some (.int x1), some (.int x2), some (.int x3), some (.int x4), some (.int x5)], [.int s0], σ) = Lq G d M_235 (99, [some (.ref 0), some (.int x1), some (.int x2), some (.int x3), some (.int x4), some (.int x5)], [.int x1, .int s0], σ) :=
  (aUn_eq (tkd G.1 G.2) tmi (aRun (tkd G.1 G.2) tmi tmt d) M_235 [] 1 (98, [some (.ref 0), some (.int x1), some (.int x2), some (.int x3), some (.int x4), some (.int x5)], [.int s0], σ)).trans rfl
set_option maxRecDepth 20000 in
theorem q_235_2948 (G : Nat × (Nat → Int32)) (d : Nat) (x1 : Int32) (x2 : Int32) (x3 : Int32) (x4 : Int32) (x5 : Int32) (s0 : Int32) (s1 : Int32) (σ : aH) : Lq G d M_235 (99, [some (.ref 0), some (.int x1), some (.int x2), some (.int x3), some (.int x4), some (.int x5)], [.int s0, .int s1], σ) = if s1 = s0 then Lq G d M_235 (102, [some (.ref 0), some (.int x1), some (.int x2), some (.int x3), some (.int x4), some (.int x5)], [], σ) else Lq G d M_235 (105, [some (.ref 0), some (.int x1), some (.int x2), some (.int x3), some (.int x4), some (.int x5)], [], σ) :=
  (aUn_eq (tkd G.1 G.2) tmi (aRun (tkd G.1 G.2) tmi tmt d) M_235 [] 1 (99, [some (.ref 0), some (.int x1), some (.int x2), some (.int x3), some (.int x4), some (.int x5)], [.int s0, .int s1], σ)).trans rfl
set_option maxRecDepth 20000 in
theorem q_235_2949 (G : Nat × (Nat → Int32)) (d : Nat) (x1 : Int32) (x2 : Int32) (x3 : Int32) (x4 : Int32) (x5 : Int32) (σ : aH) : Lq G d M_235 (102, [some (.ref 0), some (.int x1), some (.int x2), some (.int x3), some (.int x4), some (.int x5)], [], σ) = Lq G d M_235 (108, [some (.ref 0), some (.int x1), some (.int (x2 + (1 : Int32))), some (.int x3), some (.int (x4 + (1 : Int32))), some (.int x5)], [], σ) :=
  (aUn_eq (tkd G.1 G.2) tmi (aRun (tkd G.1 G.2) tmi tmt d) M_235 [] 2 (102, [some (.ref 0), some (.int x1), some (.int x2), some (.int x3), some (.int x4), some (.int x5)], [], σ)).trans rfl
set_option maxRecDepth 20000 in
theorem q_235_2950 (G : Nat × (Nat → Int32)) (d : Nat) (x1 : Int32) (x2 : Int32) (x3 : Int32) (x4 : Int32) (x5 : Int32) (σ : aH) : Lq G d M_235 (108, [some (.ref 0), some (.int x1), some (.int x2), some (.int x3), some (.int x4), some (.int x5)], [], σ) = Lq G d M_235 (20, [some (.ref 0), some (.int x1), some (.int x2), some (.int x3), some (.int x4), none], [], σ) :=
  (aUn_eq (tkd G.1 G.2) tmi (aRun (tkd G.1 G.2) tmi tmt d) M_235 [] 1 (108, [some (.ref 0), some (.int x1), some (.int x2), some (.int x3), some (.int x4), some (.int x5)], [], σ)).trans rfl
set_option maxRecDepth 20000 in
theorem q_235_2951 (G : Nat × (Nat → Int32)) (d : Nat) (x1 : Int32) (x2 : Int32) (x3 : Int32) (x4 : Int32) (σ : aH) : Lq G d M_235 (60, [some (.ref 0), some (.int x1), some (.int x2), some (.int x3), some (.int x4), none], [], σ) = Lq G d M_235 (65, [some (.ref 0), some (.int x1), some (.int x2), some (.int x3), some (.int x4), some (.int (0 : Int32))], [.int (0 : Int32)], σ) :=
  (aUn_eq (tkd G.1 G.2) tmi (aRun (tkd G.1 G.2) tmi tmt d) M_235 [] 3 (60, [some (.ref 0), some (.int x1), some (.int x2), some (.int x3), some (.int x4), none], [], σ)).trans rfl
set_option maxRecDepth 20000 in
theorem q_228_2952 (G : Nat × (Nat → Int32)) (d : Nat) (x1 : Int32) (σ : aH) : Lq G d M_228 (0, [some (.ref 33), some (.int x1)], [], σ) = Lq G d M_228 (11, [some (.ref 33), some (.int x1)], [.int (((17 : Int32) * x1) + (12 : Int32)), .ref 40], σ) :=
  (aUn_eq (tkd G.1 G.2) tmi (aRun (tkd G.1 G.2) tmi tmt d) M_228 [] 7 (0, [some (.ref 33), some (.int x1)], [], σ)).trans rfl
set_option maxRecDepth 20000 in
theorem q_228_2953 (G : Nat × (Nat → Int32)) (d : Nat) (x1 : Int32) (s0 : Int32) (σ : aH) : Lq G d M_228 (11, [some (.ref 33), some (.int x1)], [.int s0, .ref 40], σ) = aIx (s0) 1020 fun j1 => Lq G d M_228 (12, [some (.ref 33), some (.int x1)], [.int (σ.1 40 j1)], σ) :=
  (aUn_eq (tkd G.1 G.2) tmi (aRun (tkd G.1 G.2) tmi tmt d) M_228 [] 1 (11, [some (.ref 33), some (.int x1)], [.int s0, .ref 40], σ)).trans rfl
set_option maxRecDepth 20000 in
theorem q_228_2954 (G : Nat × (Nat → Int32)) (d : Nat) (x1 : Int32) (s0 : Int32) (σ : aH) : Lq G d M_228 (12, [some (.ref 33), some (.int x1)], [.int s0], σ) = some (.inl (some (.int s0)), σ) :=
  (aUn_eq (tkd G.1 G.2) tmi (aRun (tkd G.1 G.2) tmi tmt d) M_228 [] 1 (12, [some (.ref 33), some (.int x1)], [.int s0], σ)).trans rfl
