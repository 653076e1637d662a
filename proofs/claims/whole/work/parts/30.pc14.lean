/-! ===== the methods in pieces, as equations (by wip/gen/emit_eqs2.py) ===== -/
set_option maxRecDepth 20000 in
theorem q_108_3842 (G : Nat × (Nat → Int32)) (d : Nat) (x1 : Int32) (σ : aH) : Lq G d M_108 (33, [some (.ref 33), some (.int x1), none], [], σ) = Lq G d M_108 (35, [some (.ref 33), some (.int x1), none], [.int (2 : Int32), .ref 33], σ) :=
  (aUn_eq (tkd G.1 G.2) tmi (aRun (tkd G.1 G.2) tmi tmt d) M_108 [] 2 (33, [some (.ref 33), some (.int x1), none], [], σ)).trans rfl
set_option maxRecDepth 20000 in
theorem q_108_3843 (G : Nat × (Nat → Int32)) (d : Nat) (x1 : Int32) (s0 : Int32) (σ : aH) : Lq G d M_108 (35, [some (.ref 33), some (.int x1), none], [.int s0, .ref 33], σ) = aCV (Rn G d 73 [.ref 33, .int s0] σ) fun σ1 => Lq G d M_108 (38, [some (.ref 33), some (.int x1), none], [], σ1) :=
  (aUn_eq (tkd G.1 G.2) tmi (aRun (tkd G.1 G.2) tmi tmt d) M_108 [] 1 (35, [some (.ref 33), some (.int x1), none], [.int s0, .ref 33], σ)).trans rfl
set_option maxRecDepth 20000 in
theorem q_108_3844 (G : Nat × (Nat → Int32)) (d : Nat) (x1 : Int32) (σ : aH) : Lq G d M_108 (38, [some (.ref 33), some (.int x1), none], [], σ) = Lq G d M_108 (60, [some (.ref 33), some (.int x1), some (.int (σ.1 33 23))], [.ref 33], σ) :=
  (aUn_eq (tkd G.1 G.2) tmi (aRun (tkd G.1 G.2) tmi tmt d) M_108 [] 5 (38, [some (.ref 33), some (.int x1), none], [], σ)).trans rfl
set_option maxRecDepth 20000 in
theorem q_108_3845 (G : Nat × (Nat → Int32)) (d : Nat) (x1 : Int32) (σ : aH) : Lq G d M_108 (17, [some (.ref 33), some (.int x1), none], [], σ) = Lq G d M_108 (19, [some (.ref 33), some (.int x1), none], [.int (1 : Int32), .ref 33], σ) :=
  (aUn_eq (tkd G.1 G.2) tmi (aRun (tkd G.1 G.2) tmi tmt d) M_108 [] 2 (17, [some (.ref 33), some (.int x1), none], [], σ)).trans rfl
set_option maxRecDepth 20000 in
theorem q_108_3846 (G : Nat × (Nat → Int32)) (d : Nat) (x1 : Int32) (s0 : Int32) (σ : aH) : Lq G d M_108 (19, [some (.ref 33), some (.int x1), none], [.int s0, .ref 33], σ) = aCV (Rn G d 73 [.ref 33, .int s0] σ) fun σ1 => Lq G d M_108 (22, [some (.ref 33), some (.int x1), none], [], σ1) :=
  (aUn_eq (tkd G.1 G.2) tmi (aRun (tkd G.1 G.2) tmi tmt d) M_108 [] 1 (19, [some (.ref 33), some (.int x1), none], [.int s0, .ref 33], σ)).trans rfl
set_option maxRecDepth 20000 in
theorem q_108_3847 (G : Nat × (Nat → Int32)) (d : Nat) (x1 : Int32) (σ : aH) : Lq G d M_108 (22, [some (.ref 33), some (.int x1), none], [], σ) = Lq G d M_108 (60, [some (.ref 33), some (.int x1), some (.int (σ.1 33 23))], [.ref 33], σ) :=
  (aUn_eq (tkd G.1 G.2) tmi (aRun (tkd G.1 G.2) tmi tmt d) M_108 [] 5 (22, [some (.ref 33), some (.int x1), none], [], σ)).trans rfl
set_option maxRecDepth 20000 in
theorem q_79_3848 (G : Nat × (Nat → Int32)) (d : Nat) (x1 : Int32) (σ : aH) : Lq G d M_79 (0, [some (.ref 33), some (.int x1)], [], σ) = Lq G d M_79 (1, [some (.ref 33), some (.int x1)], [.ref 33], σ) :=
  (aUn_eq (tkd G.1 G.2) tmi (aRun (tkd G.1 G.2) tmi tmt d) M_79 [] 1 (0, [some (.ref 33), some (.int x1)], [], σ)).trans rfl
set_option maxRecDepth 20000 in
theorem q_79_3849 (G : Nat × (Nat → Int32)) (d : Nat) (x1 : Int32) (σ : aH) : Lq G d M_79 (1, [some (.ref 33), some (.int x1)], [.ref 33], σ) = aCI (Rn G d 67 [.ref 33] σ) fun v2 σ1 => Lq G d M_79 (4, [some (.ref 33), some (.int x1)], [.int v2], σ1) :=
  (aUn_eq (tkd G.1 G.2) tmi (aRun (tkd G.1 G.2) tmi tmt d) M_79 [] 1 (1, [some (.ref 33), some (.int x1)], [.ref 33], σ)).trans rfl
set_option maxRecDepth 20000 in
theorem q_79_3850 (G : Nat × (Nat → Int32)) (d : Nat) (x1 : Int32) (s0 : Int32) (σ : aH) : Lq G d M_79 (4, [some (.ref 33), some (.int x1)], [.int s0], σ) = if s0 = 0 then Lq G d M_79 (15, [some (.ref 33), some (.int x1)], [], σ) else Lq G d M_79 (7, [some (.ref 33), some (.int x1)], [], σ) :=
  (aUn_eq (tkd G.1 G.2) tmi (aRun (tkd G.1 G.2) tmi tmt d) M_79 [] 1 (4, [some (.ref 33), some (.int x1)], [.int s0], σ)).trans rfl
set_option maxRecDepth 20000 in
theorem q_79_3851 (G : Nat × (Nat → Int32)) (d : Nat) (x1 : Int32) (σ : aH) : Lq G d M_79 (15, [some (.ref 33), some (.int x1)], [], σ) = Lq G d M_79 (16, [some (.ref 33), some (.int x1)], [.int (0 : Int32)], σ) :=
  (aUn_eq (tkd G.1 G.2) tmi (aRun (tkd G.1 G.2) tmi tmt d) M_79 [] 1 (15, [some (.ref 33), some (.int x1)], [], σ)).trans rfl
set_option maxRecDepth 20000 in
theorem q_79_3852 (G : Nat × (Nat → Int32)) (d : Nat) (x1 : Int32) (s0 : Int32) (σ : aH) : Lq G d M_79 (16, [some (.ref 33), some (.int x1)], [.int s0], σ) = aNar .boolean (s0) (some (.inl (some (.int s0)), σ)) :=
  (aUn_eq (tkd G.1 G.2) tmi (aRun (tkd G.1 G.2) tmi tmt d) M_79 [] 1 (16, [some (.ref 33), some (.int x1)], [.int s0], σ)).trans rfl
set_option maxRecDepth 20000 in
theorem q_79_3853 (G : Nat × (Nat → Int32)) (d : Nat) (x1 : Int32) (σ : aH) : Lq G d M_79 (7, [some (.ref 33), some (.int x1)], [], σ) = Lq G d M_79 (8, [some (.ref 33), some (.int x1)], [.ref 33], σ) :=
  (aUn_eq (tkd G.1 G.2) tmi (aRun (tkd G.1 G.2) tmi tmt d) M_79 [] 1 (7, [some (.ref 33), some (.int x1)], [], σ)).trans rfl
set_option maxRecDepth 20000 in
theorem q_79_3854 (G : Nat × (Nat → Int32)) (d : Nat) (x1 : Int32) (σ : aH) : Lq G d M_79 (8, [some (.ref 33), some (.int x1)], [.ref 33], σ) = aCI (Rn G d 69 [.ref 33] σ) fun v2 σ1 => Lq G d M_79 (11, [some (.ref 33), some (.int x1)], [.int v2], σ1) :=
  (aUn_eq (tkd G.1 G.2) tmi (aRun (tkd G.1 G.2) tmi tmt d) M_79 [] 1 (8, [some (.ref 33), some (.int x1)], [.ref 33], σ)).trans rfl
set_option maxRecDepth 20000 in
theorem q_79_3855 (G : Nat × (Nat → Int32)) (d : Nat) (x1 : Int32) (s0 : Int32) (σ : aH) : Lq G d M_79 (11, [some (.ref 33), some (.int x1)], [.int s0], σ) = Lq G d M_79 (12, [some (.ref 33), some (.int x1)], [.int x1, .int s0], σ) :=
  (aUn_eq (tkd G.1 G.2) tmi (aRun (tkd G.1 G.2) tmi tmt d) M_79 [] 1 (11, [some (.ref 33), some (.int x1)], [.int s0], σ)).trans rfl
set_option maxRecDepth 20000 in
theorem q_79_3856 (G : Nat × (Nat → Int32)) (d : Nat) (x1 : Int32) (s0 : Int32) (s1 : Int32) (σ : aH) : Lq G d M_79 (12, [some (.ref 33), some (.int x1)], [.int s0, .int s1], σ) = if s1 = s0 then Lq G d M_79 (17, [some (.ref 33), some (.int x1)], [], σ) else Lq G d M_79 (15, [some (.ref 33), some (.int x1)], [], σ) :=
  (aUn_eq (tkd G.1 G.2) tmi (aRun (tkd G.1 G.2) tmi tmt d) M_79 [] 1 (12, [some (.ref 33), some (.int x1)], [.int s0, .int s1], σ)).trans rfl
set_option maxRecDepth 20000 in
theorem q_79_3857 (G : Nat × (Nat → Int32)) (d : Nat) (x1 : Int32) (σ : aH) : Lq G d M_79 (17, [some (.ref 33), some (.int x1)], [], σ) = Lq G d M_79 (18, [some (.ref 33), some (.int x1)], [.ref 33], σ) :=
  (aUn_eq (tkd G.1 G.2) tmi (aRun (tkd G.1 G.2) tmi tmt d) M_79 [] 1 (17, [some (.ref 33), some (.int x1)], [], σ)).trans rfl
set_option maxRecDepth 20000 in
theorem q_79_3858 (G : Nat × (Nat → Int32)) (d : Nat) (x1 : Int32) (σ : aH) : Lq G d M_79 (18, [some (.ref 33), some (.int x1)], [.ref 33], σ) = aCV (Rn G d 63 [.ref 33] σ) fun σ1 => Lq G d M_79 (21, [some (.ref 33), some (.int x1)], [], σ1) :=
  (aUn_eq (tkd G.1 G.2) tmi (aRun (tkd G.1 G.2) tmi tmt d) M_79 [] 1 (18, [some (.ref 33), some (.int x1)], [.ref 33], σ)).trans rfl
set_option maxRecDepth 20000 in
theorem q_79_3859 (G : Nat × (Nat → Int32)) (d : Nat) (x1 : Int32) (σ : aH) : Lq G d M_79 (21, [some (.ref 33), some (.int x1)], [], σ) = Lq G d M_79 (22, [some (.ref 33), some (.int x1)], [.int (1 : Int32)], σ) :=
  (aUn_eq (tkd G.1 G.2) tmi (aRun (tkd G.1 G.2) tmi tmt d) M_79 [] 1 (21, [some (.ref 33), some (.int x1)], [], σ)).trans rfl
set_option maxRecDepth 20000 in
theorem q_79_3860 (G : Nat × (Nat → Int32)) (d : Nat) (x1 : Int32) (s0 : Int32) (σ : aH) : Lq G d M_79 (22, [some (.ref 33), some (.int x1)], [.int s0], σ) = aNar .boolean (s0) (some (.inl (some (.int s0)), σ)) :=
  (aUn_eq (tkd G.1 G.2) tmi (aRun (tkd G.1 G.2) tmi tmt d) M_79 [] 1 (22, [some (.ref 33), some (.int x1)], [.int s0], σ)).trans rfl
set_option maxRecDepth 20000 in
theorem q_77_3861 (G : Nat × (Nat → Int32)) (d : Nat) (x1 : Int32) (x2 : Int32) (x3 : Int32) (x4 : Int32) (σ : aH) : Lq G d M_77 (0, [some (.ref 33), some (.int x1), some (.int x2), some (.int x3), some (.int x4)], [], σ) = Lq G d M_77 (1, [some (.ref 33), some (.int x1), some (.int x2), some (.int x3), some (.int x4)], [.ref 33], σ) :=
  (aUn_eq (tkd G.1 G.2) tmi (aRun (tkd G.1 G.2) tmi tmt d) M_77 [] 1 (0, [some (.ref 33), some (.int x1), some (.int x2), some (.int x3), some (.int x4)], [], σ)).trans rfl
set_option maxRecDepth 20000 in
theorem q_77_3862 (G : Nat × (Nat → Int32)) (d : Nat) (x1 : Int32) (x2 : Int32) (x3 : Int32) (x4 : Int32) (σ : aH) : Lq G d M_77 (1, [some (.ref 33), some (.int x1), some (.int x2), some (.int x3), some (.int x4)], [.ref 33], σ) = aCI (Rn G d 67 [.ref 33] σ) fun v2 σ1 => Lq G d M_77 (4, [some (.ref 33), some (.int x1), some (.int x2), some (.int x3), some (.int x4)], [.int v2], σ1) :=
  (aUn_eq (tkd G.1 G.2) tmi (aRun (tkd G.1 G.2) tmi tmt d) M_77 [] 1 (1, [some (.ref 33), some (.int x1), some (.int x2), some (.int x3), some (.int x4)], [.ref 33], σ)).trans rfl
set_option maxRecDepth 20000 in
theorem q_77_3863 (G : Nat × (Nat → Int32)) (d : Nat) (x1 : Int32) (x2 : Int32) (x3 : Int32) (x4 : Int32) (s0 : Int32) (σ : aH) : Lq G d M_77 (4, [some (.ref 33), some (.int x1), some (.int x2), some (.int x3), some (.int x4)], [.int s0], σ) = if s0 = 0 then Lq G d M_77 (25, [some (.ref 33), some (.int x1), some (.int x2), some (.int x3), some (.int x4)], [], σ) else Lq G d M_77 (7, [some (.ref 33), some (.int x1), some (.int x2), some (.int x3), some (.int x4)], [], σ) :=
  (aUn_eq (tkd G.1 G.2) tmi (aRun (tkd G.1 G.2) tmi tmt d) M_77 [] 1 (4, [some (.ref 33), some (.int x1), some (.int x2), some (.int x3), some (.int x4)], [.int s0], σ)).trans rfl
set_option maxRecDepth 20000 in
theorem q_77_3864 (G : Nat × (Nat → Int32)) (d : Nat) (x1 : Int32) (x2 : Int32) (x3 : Int32) (x4 : Int32) (σ : aH) : Lq G d M_77 (25, [some (.ref 33), some (.int x1), some (.int x2), some (.int x3), some (.int x4)], [], σ) = Lq G d M_77 (27, [some (.ref 33), some (.int x1), some (.int x2), some (.int x3), some (.int x4)], [.int x4], σ) :=
  (aUn_eq (tkd G.1 G.2) tmi (aRun (tkd G.1 G.2) tmi tmt d) M_77 [] 1 (25, [some (.ref 33), some (.int x1), some (.int x2), some (.int x3), some (.int x4)], [], σ)).trans rfl
set_option maxRecDepth 20000 in
theorem q_77_3865 (G : Nat × (Nat → Int32)) (d : Nat) (x1 : Int32) (x2 : Int32) (x3 : Int32) (x4 : Int32) (s0 : Int32) (σ : aH) : Lq G d M_77 (27, [some (.ref 33), some (.int x1), some (.int x2), some (.int x3), some (.int x4)], [.int s0], σ) = some (.inl (some (.int s0)), σ) :=
  (aUn_eq (tkd G.1 G.2) tmi (aRun (tkd G.1 G.2) tmi tmt d) M_77 [] 1 (27, [some (.ref 33), some (.int x1), some (.int x2), some (.int x3), some (.int x4)], [.int s0], σ)).trans rfl
set_option maxRecDepth 20000 in
theorem q_77_3866 (G : Nat × (Nat → Int32)) (d : Nat) (x1 : Int32) (x2 : Int32) (x3 : Int32) (x4 : Int32) (σ : aH) : Lq G d M_77 (7, [some (.ref 33), some (.int x1), some (.int x2), some (.int x3), some (.int x4)], [], σ) = Lq G d M_77 (8, [some (.ref 33), some (.int x1), some (.int x2), some (.int x3), some (.int x4)], [.ref 33], σ) :=
  (aUn_eq (tkd G.1 G.2) tmi (aRun (tkd G.1 G.2) tmi tmt d) M_77 [] 1 (7, [some (.ref 33), some (.int x1), some (.int x2), some (.int x3), some (.int x4)], [], σ)).trans rfl
set_option maxRecDepth 20000 in
theorem q_77_3867 (G : Nat × (Nat → Int32)) (d : Nat) (x1 : Int32) (x2 : Int32) (x3 : Int32) (x4 : Int32) (σ : aH) : Lq G d M_77 (8, [some (.ref 33), some (.int x1), some (.int x2), some (.int x3), some (.int x4)], [.ref 33], σ) = aCI (Rn G d 69 [.ref 33] σ) fun v2 σ1 => Lq G d M_77 (11, [some (.ref 33), some (.int x1), some (.int x2), some (.int x3), some (.int x4)], [.int v2], σ1) :=
  (aUn_eq (tkd G.1 G.2) tmi (aRun (tkd G.1 G.2) tmi tmt d) M_77 [] 1 (8, [some (.ref 33), some (.int x1), some (.int x2), some (.int x3), some (.int x4)], [.ref 33], σ)).trans rfl
set_option maxRecDepth 20000 in
theorem q_77_3868 (G : Nat × (Nat → Int32)) (d : Nat) (x1 : Int32) (x2 : Int32) (x3 : Int32) (x4 : Int32) (s0 : Int32) (σ : aH) : Lq G d M_77 (11, [some (.ref 33), some (.int x1), some (.int x2), some (.int x3), some (.int x4)], [.int s0], σ) = Lq G d M_77 (12, [some (.ref 33), some (.int x1), some (.int x2), some (.int x3), some (.int x4)], [.int x1, .int s0], σ) :=
  (aUn_eq (tkd G.1 G.2) tmi (aRun (tkd G.1 G.2) tmi tmt d) M_77 [] 1 (11, [some (.ref 33), some (.int x1), some (.int x2), some (.int x3), some (.int x4)], [.int s0], σ)).trans rfl
set_option maxRecDepth 20000 in
theorem q_77_3869 (G : Nat × (Nat → Int32)) (d : Nat) (x1 : Int32) (x2 : Int32) (x3 : Int32) (x4 : Int32) (s0 : Int32) (s1 : Int32) (σ : aH) : Lq G d M_77 (12, [some (.ref 33), some (.int x1), some (.int x2), some (.int x3), some (.int x4)], [.int s0, .int s1], σ) = if s1 = s0 then Lq G d M_77 (15, [some (.ref 33), some (.int x1), some (.int x2), some (.int x3), some (.int x4)], [], σ) else Lq G d M_77 (25, [some (.ref 33), some (.int x1), some (.int x2), some (.int x3), some (.int x4)], [], σ) :=
  (aUn_eq (tkd G.1 G.2) tmi (aRun (tkd G.1 G.2) tmi tmt d) M_77 [] 1 (12, [some (.ref 33), some (.int x1), some (.int x2), some (.int x3), some (.int x4)], [.int s0, .int s1], σ)).trans rfl
set_option maxRecDepth 20000 in
theorem q_77_3870 (G : Nat × (Nat → Int32)) (d : Nat) (x1 : Int32) (x2 : Int32) (x3 : Int32) (x4 : Int32) (σ : aH) : Lq G d M_77 (15, [some (.ref 33), some (.int x1), some (.int x2), some (.int x3), some (.int x4)], [], σ) = Lq G d M_77 (19, [some (.ref 33), some (.int x1), some (.int x2), some (.int x3), some (.int x4)], [.int x3, .int x2, .int x1, .ref 33], σ) :=
  (aUn_eq (tkd G.1 G.2) tmi (aRun (tkd G.1 G.2) tmi tmt d) M_77 [] 4 (15, [some (.ref 33), some (.int x1), some (.int x2), some (.int x3), some (.int x4)], [], σ)).trans rfl
set_option maxRecDepth 20000 in
theorem q_77_3871 (G : Nat × (Nat → Int32)) (d : Nat) (x1 : Int32) (x2 : Int32) (x3 : Int32) (x4 : Int32) (s0 : Int32) (s1 : Int32) (s2 : Int32) (σ : aH) : Lq G d M_77 (19, [some (.ref 33), some (.int x1), some (.int x2), some (.int x3), some (.int x4)], [.int s0, .int s1, .int s2, .ref 33], σ) = aCI (Rn G d 74 [.ref 33, .int s2, .int s1, .int s0] σ) fun v2 σ1 => Lq G d M_77 (22, [some (.ref 33), some (.int x1), some (.int x2), some (.int x3), some (.int x4)], [.int v2], σ1) :=
  (aUn_eq (tkd G.1 G.2) tmi (aRun (tkd G.1 G.2) tmi tmt d) M_77 [] 1 (19, [some (.ref 33), some (.int x1), some (.int x2), some (.int x3), some (.int x4)], [.int s0, .int s1, .int s2, .ref 33], σ)).trans rfl
set_option maxRecDepth 20000 in
theorem q_77_3872 (G : Nat × (Nat → Int32)) (d : Nat) (x1 : Int32) (x2 : Int32) (x3 : Int32) (x4 : Int32) (s0 : Int32) (σ : aH) : Lq G d M_77 (22, [some (.ref 33), some (.int x1), some (.int x2), some (.int x3), some (.int x4)], [.int s0], σ) = Lq G d M_77 (27, [some (.ref 33), some (.int x1), some (.int x2), some (.int x3), some (.int x4)], [.int s0], σ) :=
  (aUn_eq (tkd G.1 G.2) tmi (aRun (tkd G.1 G.2) tmi tmt d) M_77 [] 1 (22, [some (.ref 33), some (.int x1), some (.int x2), some (.int x3), some (.int x4)], [.int s0], σ)).trans rfl
set_option maxRecDepth 20000 in
theorem q_109_3873 (G : Nat × (Nat → Int32)) (d : Nat) (x1 : Int32) (σ : aH) : Lq G d M_109 (0, [some (.ref 33), some (.int x1), none, none], [], σ) = Lq G d M_109 (3, [some (.ref 33), some (.int x1), none, none], [.int (37 : Int32), .ref 33], σ) :=
  (aUn_eq (tkd G.1 G.2) tmi (aRun (tkd G.1 G.2) tmi tmt d) M_109 [] 2 (0, [some (.ref 33), some (.int x1), none, none], [], σ)).trans rfl
set_option maxRecDepth 20000 in
theorem q_109_3874 (G : Nat × (Nat → Int32)) (d : Nat) (x1 : Int32) (s0 : Int32) (σ : aH) : Lq G d M_109 (3, [some (.ref 33), some (.int x1), none, none], [.int s0, .ref 33], σ) = aCI (Rn G d 79 [.ref 33, .int s0] σ) fun v2 σ1 => Lq G d M_109 (6, [some (.ref 33), some (.int x1), none, none], [.int v2], σ1) :=
  (aUn_eq (tkd G.1 G.2) tmi (aRun (tkd G.1 G.2) tmi tmt d) M_109 [] 1 (3, [some (.ref 33), some (.int x1), none, none], [.int s0, .ref 33], σ)).trans rfl
set_option maxRecDepth 20000 in
theorem q_109_3875 (G : Nat × (Nat → Int32)) (d : Nat) (x1 : Int32) (s0 : Int32) (σ : aH) : Lq G d M_109 (6, [some (.ref 33), some (.int x1), none, none], [.int s0], σ) = Lq G d M_109 (10, [some (.ref 33), some (.int x1), some (.int s0), none], [.int x1, .int (0 : Int32), .ref 33], σ) :=
  (aUn_eq (tkd G.1 G.2) tmi (aRun (tkd G.1 G.2) tmi tmt d) M_109 [] 4 (6, [some (.ref 33), some (.int x1), none, none], [.int s0], σ)).trans rfl
set_option maxRecDepth 20000 in
theorem q_109_3876 (G : Nat × (Nat → Int32)) (d : Nat) (x1 : Int32) (x2 : Int32) (s0 : Int32) (s1 : Int32) (σ : aH) : Lq G d M_109 (10, [some (.ref 33), some (.int x1), some (.int x2), none], [.int s0, .int s1, .ref 33], σ) = aCI (Rn G d 76 [.ref 33, .int s1, .int s0] σ) fun v2 σ1 => Lq G d M_109 (13, [some (.ref 33), some (.int x1), some (.int x2), none], [.int v2], σ1) :=
  (aUn_eq (tkd G.1 G.2) tmi (aRun (tkd G.1 G.2) tmi tmt d) M_109 [] 1 (10, [some (.ref 33), some (.int x1), some (.int x2), none], [.int s0, .int s1, .ref 33], σ)).trans rfl
set_option maxRecDepth 20000 in
theorem q_109_3877 (G : Nat × (Nat → Int32)) (d : Nat) (x1 : Int32) (x2 : Int32) (s0 : Int32) (σ : aH) : Lq G d M_109 (13, [some (.ref 33), some (.int x1), some (.int x2), none], [.int s0], σ) = Lq G d M_109 (15, [some (.ref 33), some (.int x1), some (.int x2), some (.int s0)], [.int x2], σ) :=
  (aUn_eq (tkd G.1 G.2) tmi (aRun (tkd G.1 G.2) tmi tmt d) M_109 [] 2 (13, [some (.ref 33), some (.int x1), some (.int x2), none], [.int s0], σ)).trans rfl
set_option maxRecDepth 20000 in
theorem q_109_3878 (G : Nat × (Nat → Int32)) (d : Nat) (x1 : Int32) (x2 : Int32) (x3 : Int32) (s0 : Int32) (σ : aH) : Lq G d M_109 (15, [some (.ref 33), some (.int x1), some (.int x2), some (.int x3)], [.int s0], σ) = if s0 = 0 then Lq G d M_109 (23, [some (.ref 33), some (.int x1), some (.int x2), some (.int x3)], [], σ) else Lq G d M_109 (18, [some (.ref 33), some (.int x1), some (.int x2), some (.int x3)], [], σ) :=
  (aUn_eq (tkd G.1 G.2) tmi (aRun (tkd G.1 G.2) tmi tmt d) M_109 [] 1 (15, [some (.ref 33), some (.int x1), some (.int x2), some (.int x3)], [.int s0], σ)).trans rfl
set_option maxRecDepth 20000 in
theorem q_109_3879 (G : Nat × (Nat → Int32)) (d : Nat) (x1 : Int32) (x2 : Int32) (x3 : Int32) (σ : aH) : Lq G d M_109 (23, [some (.ref 33), some (.int x1), some (.int x2), some (.int x3)], [], σ) = Lq G d M_109 (24, [some (.ref 33), some (.int x1), some (.int x2), some (.int x3)], [.int x3], σ) :=
  (aUn_eq (tkd G.1 G.2) tmi (aRun (tkd G.1 G.2) tmi tmt d) M_109 [] 1 (23, [some (.ref 33), some (.int x1), some (.int x2), some (.int x3)], [], σ)).trans rfl
set_option maxRecDepth 20000 in
theorem q_109_3880 (G : Nat × (Nat → Int32)) (d : Nat) (x1 : Int32) (x2 : Int32) (x3 : Int32) (s0 : Int32) (σ : aH) : Lq G d M_109 (24, [some (.ref 33), some (.int x1), some (.int x2), some (.int x3)], [.int s0], σ) = some (.inl (some (.int s0)), σ) :=
  (aUn_eq (tkd G.1 G.2) tmi (aRun (tkd G.1 G.2) tmi tmt d) M_109 [] 1 (24, [some (.ref 33), some (.int x1), some (.int x2), some (.int x3)], [.int s0], σ)).trans rfl
set_option maxRecDepth 20000 in
theorem q_109_3881 (G : Nat × (Nat → Int32)) (d : Nat) (x1 : Int32) (x2 : Int32) (x3 : Int32) (σ : aH) : Lq G d M_109 (18, [some (.ref 33), some (.int x1), some (.int x2), some (.int x3)], [], σ) = Lq G d M_109 (24, [some (.ref 33), some (.int x1), some (.int x2), some (.int x3)], [.int (-x3)], σ) :=
  (aUn_eq (tkd G.1 G.2) tmi (aRun (tkd G.1 G.2) tmi tmt d) M_109 [] 3 (18, [some (.ref 33), some (.int x1), some (.int x2), some (.int x3)], [], σ)).trans rfl
set_option maxRecDepth 20000 in
theorem q_76_3882 (G : Nat × (Nat → Int32)) (d : Nat) (x1 : Int32) (x2 : Int32) (σ : aH) : Lq G d M_76 (0, [some (.ref 33), some (.int x1), some (.int x2), none], [], σ) = Lq G d M_76 (1, [some (.ref 33), some (.int x1), some (.int x2), none], [.ref 33], σ) :=
  (aUn_eq (tkd G.1 G.2) tmi (aRun (tkd G.1 G.2) tmi tmt d) M_76 [] 1 (0, [some (.ref 33), some (.int x1), some (.int x2), none], [], σ)).trans rfl
set_option maxRecDepth 20000 in
theorem q_76_3883 (G : Nat × (Nat → Int32)) (d : Nat) (x1 : Int32) (x2 : Int32) (σ : aH) : Lq G d M_76 (1, [some (.ref 33), some (.int x1), some (.int x2), none], [.ref 33], σ) = aCI (Rn G d 67 [.ref 33] σ) fun v2 σ1 => Lq G d M_76 (4, [some (.ref 33), some (.int x1), some (.int x2), none], [.int v2], σ1) :=
  (aUn_eq (tkd G.1 G.2) tmi (aRun (tkd G.1 G.2) tmi tmt d) M_76 [] 1 (1, [some (.ref 33), some (.int x1), some (.int x2), none], [.ref 33], σ)).trans rfl
set_option maxRecDepth 20000 in
theorem q_76_3884 (G : Nat × (Nat → Int32)) (d : Nat) (x1 : Int32) (x2 : Int32) (s0 : Int32) (σ : aH) : Lq G d M_76 (4, [some (.ref 33), some (.int x1), some (.int x2), none], [.int s0], σ) = if s0 = 0 then Lq G d M_76 (7, [some (.ref 33), some (.int x1), some (.int x2), none], [], σ) else Lq G d M_76 (9, [some (.ref 33), some (.int x1), some (.int x2), none], [], σ) :=
  (aUn_eq (tkd G.1 G.2) tmi (aRun (tkd G.1 G.2) tmi tmt d) M_76 [] 1 (4, [some (.ref 33), some (.int x1), some (.int x2), none], [.int s0], σ)).trans rfl
set_option maxRecDepth 20000 in
theorem q_76_3885 (G : Nat × (Nat → Int32)) (d : Nat) (x1 : Int32) (x2 : Int32) (σ : aH) : Lq G d M_76 (7, [some (.ref 33), some (.int x1), some (.int x2), none], [], σ) = Lq G d M_76 (8, [some (.ref 33), some (.int x1), some (.int x2), none], [.int (0 : Int32)], σ) :=
  (aUn_eq (tkd G.1 G.2) tmi (aRun (tkd G.1 G.2) tmi tmt d) M_76 [] 1 (7, [some (.ref 33), some (.int x1), some (.int x2), none], [], σ)).trans rfl
set_option maxRecDepth 20000 in
theorem q_76_3886 (G : Nat × (Nat → Int32)) (d : Nat) (x1 : Int32) (x2 : Int32) (s0 : Int32) (σ : aH) : Lq G d M_76 (8, [some (.ref 33), some (.int x1), some (.int x2), none], [.int s0], σ) = some (.inl (some (.int s0)), σ) :=
  (aUn_eq (tkd G.1 G.2) tmi (aRun (tkd G.1 G.2) tmi tmt d) M_76 [] 1 (8, [some (.ref 33), some (.int x1), some (.int x2), none], [.int s0], σ)).trans rfl
set_option maxRecDepth 20000 in
theorem q_76_3887 (G : Nat × (Nat → Int32)) (d : Nat) (x1 : Int32) (x2 : Int32) (σ : aH) : Lq G d M_76 (9, [some (.ref 33), some (.int x1), some (.int x2), none], [], σ) = Lq G d M_76 (14, [some (.ref 33), some (.int x1), some (.int x2), none], [.int (2 : Int32), .int (σ.1 33 20)], σ) :=
  (aUn_eq (tkd G.1 G.2) tmi (aRun (tkd G.1 G.2) tmi tmt d) M_76 [] 3 (9, [some (.ref 33), some (.int x1), some (.int x2), none], [], σ)).trans rfl
set_option maxRecDepth 20000 in
theorem q_76_3888 (G : Nat × (Nat → Int32)) (d : Nat) (x1 : Int32) (x2 : Int32) (s0 : Int32) (s1 : Int32) (σ : aH) : Lq G d M_76 (14, [some (.ref 33), some (.int x1), some (.int x2), none], [.int s0, .int s1], σ) = if s1 = s0 then Lq G d M_76 (25, [some (.ref 33), some (.int x1), some (.int x2), none], [], σ) else Lq G d M_76 (17, [some (.ref 33), some (.int x1), some (.int x2), none], [], σ) :=
  (aUn_eq (tkd G.1 G.2) tmi (aRun (tkd G.1 G.2) tmi tmt d) M_76 [] 1 (14, [some (.ref 33), some (.int x1), some (.int x2), none], [.int s0, .int s1], σ)).trans rfl
set_option maxRecDepth 20000 in
theorem q_76_3889 (G : Nat × (Nat → Int32)) (d : Nat) (x1 : Int32) (x2 : Int32) (σ : aH) : Lq G d M_76 (25, [some (.ref 33), some (.int x1), some (.int x2), none], [], σ) = Lq G d M_76 (30, [some (.ref 33), some (.int x1), some (.int x2), none], [.int (4 : Int32), .int (σ.1 33 22)], σ) :=
  (aUn_eq (tkd G.1 G.2) tmi (aRun (tkd G.1 G.2) tmi tmt d) M_76 [] 3 (25, [some (.ref 33), some (.int x1), some (.int x2), none], [], σ)).trans rfl
set_option maxRecDepth 20000 in
theorem q_76_3890 (G : Nat × (Nat → Int32)) (d : Nat) (x1 : Int32) (x2 : Int32) (s0 : Int32) (s1 : Int32) (σ : aH) : Lq G d M_76 (30, [some (.ref 33), some (.int x1), some (.int x2), none], [.int s0, .int s1], σ) = if s0 < s1 then Lq G d M_76 (49, [some (.ref 33), some (.int x1), some (.int x2), none], [], σ) else Lq G d M_76 (33, [some (.ref 33), some (.int x1), some (.int x2), none], [], σ) :=
  (aUn_eq (tkd G.1 G.2) tmi (aRun (tkd G.1 G.2) tmi tmt d) M_76 [] 1 (30, [some (.ref 33), some (.int x1), some (.int x2), none], [.int s0, .int s1], σ)).trans rfl
set_option maxRecDepth 20000 in
theorem q_76_3891 (G : Nat × (Nat → Int32)) (d : Nat) (x1 : Int32) (x2 : Int32) (σ : aH) : Lq G d M_76 (49, [some (.ref 33), some (.int x1), some (.int x2), none], [], σ) = Lq G d M_76 (51, [some (.ref 33), some (.int x1), some (.int x2), none], [.int (2 : Int32), .ref 33], σ) :=
  (aUn_eq (tkd G.1 G.2) tmi (aRun (tkd G.1 G.2) tmi tmt d) M_76 [] 2 (49, [some (.ref 33), some (.int x1), some (.int x2), none], [], σ)).trans rfl
set_option maxRecDepth 20000 in
theorem q_76_3892 (G : Nat × (Nat → Int32)) (d : Nat) (x1 : Int32) (x2 : Int32) (s0 : Int32) (σ : aH) : Lq G d M_76 (51, [some (.ref 33), some (.int x1), some (.int x2), none], [.int s0, .ref 33], σ) = aCV (Rn G d 73 [.ref 33, .int s0] σ) fun σ1 => Lq G d M_76 (54, [some (.ref 33), some (.int x1), some (.int x2), none], [], σ1) :=
  (aUn_eq (tkd G.1 G.2) tmi (aRun (tkd G.1 G.2) tmi tmt d) M_76 [] 1 (51, [some (.ref 33), some (.int x1), some (.int x2), none], [.int s0, .ref 33], σ)).trans rfl
set_option maxRecDepth 20000 in
theorem q_76_3893 (G : Nat × (Nat → Int32)) (d : Nat) (x1 : Int32) (x2 : Int32) (σ : aH) : Lq G d M_76 (54, [some (.ref 33), some (.int x1), some (.int x2), none], [], σ) = Lq G d M_76 (60, [some (.ref 33), some (.int x1), some (.int x2), some (.int (σ.1 33 23))], [.ref 33], σ) :=
  (aUn_eq (tkd G.1 G.2) tmi (aRun (tkd G.1 G.2) tmi tmt d) M_76 [] 4 (54, [some (.ref 33), some (.int x1), some (.int x2), none], [], σ)).trans rfl
set_option maxRecDepth 20000 in
theorem q_76_3894 (G : Nat × (Nat → Int32)) (d : Nat) (x1 : Int32) (x2 : Int32) (x3 : Int32) (σ : aH) : Lq G d M_76 (60, [some (.ref 33), some (.int x1), some (.int x2), some (.int x3)], [.ref 33], σ) = aCI (Rn G d 67 [.ref 33] σ) fun v2 σ1 => Lq G d M_76 (63, [some (.ref 33), some (.int x1), some (.int x2), some (.int x3)], [.int v2], σ1) :=
  (aUn_eq (tkd G.1 G.2) tmi (aRun (tkd G.1 G.2) tmi tmt d) M_76 [] 1 (60, [some (.ref 33), some (.int x1), some (.int x2), some (.int x3)], [.ref 33], σ)).trans rfl
set_option maxRecDepth 20000 in
theorem q_76_3895 (G : Nat × (Nat → Int32)) (d : Nat) (x1 : Int32) (x2 : Int32) (x3 : Int32) (s0 : Int32) (σ : aH) : Lq G d M_76 (63, [some (.ref 33), some (.int x1), some (.int x2), some (.int x3)], [.int s0], σ) = if s0 = 0 then Lq G d M_76 (70, [some (.ref 33), some (.int x1), some (.int x2), some (.int x3)], [], σ) else Lq G d M_76 (66, [some (.ref 33), some (.int x1), some (.int x2), some (.int x3)], [], σ) :=
  (aUn_eq (tkd G.1 G.2) tmi (aRun (tkd G.1 G.2) tmi tmt d) M_76 [] 1 (63, [some (.ref 33), some (.int x1), some (.int x2), some (.int x3)], [.int s0], σ)).trans rfl
set_option maxRecDepth 20000 in
theorem q_76_3896 (G : Nat × (Nat → Int32)) (d : Nat) (x1 : Int32) (x2 : Int32) (x3 : Int32) (σ : aH) : Lq G d M_76 (70, [some (.ref 33), some (.int x1), some (.int x2), some (.int x3)], [], σ) = Lq G d M_76 (71, [some (.ref 33), some (.int x1), some (.int x2), some (.int x3)], [.int x3], σ) :=
  (aUn_eq (tkd G.1 G.2) tmi (aRun (tkd G.1 G.2) tmi tmt d) M_76 [] 1 (70, [some (.ref 33), some (.int x1), some (.int x2), some (.int x3)], [], σ)).trans rfl
set_option maxRecDepth 20000 in
theorem q_76_3897 (G : Nat × (Nat → Int32)) (d : Nat) (x1 : Int32) (x2 : Int32) (x3 : Int32) (s0 : Int32) (σ : aH) : Lq G d M_76 (71, [some (.ref 33), some (.int x1), some (.int x2), some (.int x3)], [.int s0], σ) = some (.inl (some (.int s0)), σ) :=
  (aUn_eq (tkd G.1 G.2) tmi (aRun (tkd G.1 G.2) tmi tmt d) M_76 [] 1 (71, [some (.ref 33), some (.int x1), some (.int x2), some (.int x3)], [.int s0], σ)).trans rfl
set_option maxRecDepth 20000 in
theorem q_76_3898 (G : Nat × (Nat → Int32)) (d : Nat) (x1 : Int32) (x2 : Int32) (x3 : Int32) (σ : aH) : Lq G d M_76 (66, [some (.ref 33), some (.int x1), some (.int x2), some (.int x3)], [], σ) = Lq G d M_76 (67, [some (.ref 33), some (.int x1), some (.int x2), some (.int x3)], [.ref 33], σ) :=
  (aUn_eq (tkd G.1 G.2) tmi (aRun (tkd G.1 G.2) tmi tmt d) M_76 [] 1 (66, [some (.ref 33), some (.int x1), some (.int x2), some (.int x3)], [], σ)).trans rfl
set_option maxRecDepth 20000 in
theorem q_76_3899 (G : Nat × (Nat → Int32)) (d : Nat) (x1 : Int32) (x2 : Int32) (x3 : Int32) (σ : aH) : Lq G d M_76 (67, [some (.ref 33), some (.int x1), some (.int x2), some (.int x3)], [.ref 33], σ) = aCV (Rn G d 63 [.ref 33] σ) fun σ1 => Lq G d M_76 (70, [some (.ref 33), some (.int x1), some (.int x2), some (.int x3)], [], σ1) :=
  (aUn_eq (tkd G.1 G.2) tmi (aRun (tkd G.1 G.2) tmi tmt d) M_76 [] 1 (67, [some (.ref 33), some (.int x1), some (.int x2), some (.int x3)], [.ref 33], σ)).trans rfl
set_option maxRecDepth 20000 in
theorem q_76_3900 (G : Nat × (Nat → Int32)) (d : Nat) (x1 : Int32) (x2 : Int32) (σ : aH) : Lq G d M_76 (33, [some (.ref 33), some (.int x1), some (.int x2), none], [], σ) = Lq G d M_76 (38, [some (.ref 33), some (.int x1), some (.int x2), none], [.int x1, .int (σ.1 33 23)], σ) :=
  (aUn_eq (tkd G.1 G.2) tmi (aRun (tkd G.1 G.2) tmi tmt d) M_76 [] 3 (33, [some (.ref 33), some (.int x1), some (.int x2), none], [], σ)).trans rfl
set_option maxRecDepth 20000 in
theorem q_76_3901 (G : Nat × (Nat → Int32)) (d : Nat) (x1 : Int32) (x2 : Int32) (s0 : Int32) (s1 : Int32) (σ : aH) : Lq G d M_76 (38, [some (.ref 33), some (.int x1), some (.int x2), none], [.int s0, .int s1], σ) = if s1 < s0 then Lq G d M_76 (49, [some (.ref 33), some (.int x1), some (.int x2), none], [], σ) else Lq G d M_76 (41, [some (.ref 33), some (.int x1), some (.int x2), none], [], σ) :=
  (aUn_eq (tkd G.1 G.2) tmi (aRun (tkd G.1 G.2) tmi tmt d) M_76 [] 1 (38, [some (.ref 33), some (.int x1), some (.int x2), none], [.int s0, .int s1], σ)).trans rfl
set_option maxRecDepth 20000 in
theorem q_76_3902 (G : Nat × (Nat → Int32)) (d : Nat) (x1 : Int32) (x2 : Int32) (σ : aH) : Lq G d M_76 (41, [some (.ref 33), some (.int x1), some (.int x2), none], [], σ) = Lq G d M_76 (46, [some (.ref 33), some (.int x1), some (.int x2), none], [.int x2, .int (σ.1 33 23)], σ) :=
  (aUn_eq (tkd G.1 G.2) tmi (aRun (tkd G.1 G.2) tmi tmt d) M_76 [] 3 (41, [some (.ref 33), some (.int x1), some (.int x2), none], [], σ)).trans rfl
set_option maxRecDepth 20000 in
theorem q_76_3903 (G : Nat × (Nat → Int32)) (d : Nat) (x1 : Int32) (x2 : Int32) (s0 : Int32) (s1 : Int32) (σ : aH) : Lq G d M_76 (46, [some (.ref 33), some (.int x1), some (.int x2), none], [.int s0, .int s1], σ) = if s1 ≤ s0 then Lq G d M_76 (54, [some (.ref 33), some (.int x1), some (.int x2), none], [], σ) else Lq G d M_76 (49, [some (.ref 33), some (.int x1), some (.int x2), none], [], σ) :=
  (aUn_eq (tkd G.1 G.2) tmi (aRun (tkd G.1 G.2) tmi tmt d) M_76 [] 1 (46, [some (.ref 33), some (.int x1), some (.int x2), none], [.int s0, .int s1], σ)).trans rfl
set_option maxRecDepth 20000 in
theorem q_76_3904 (G : Nat × (Nat → Int32)) (d : Nat) (x1 : Int32) (x2 : Int32) (σ : aH) : Lq G d M_76 (17, [some (.ref 33), some (.int x1), some (.int x2), none], [], σ) = Lq G d M_76 (19, [some (.ref 33), some (.int x1), some (.int x2), none], [.int (1 : Int32), .ref 33], σ) :=
  (aUn_eq (tkd G.1 G.2) tmi (aRun (tkd G.1 G.2) tmi tmt d) M_76 [] 2 (17, [some (.ref 33), some (.int x1), some (.int x2), none], [], σ)).trans rfl
set_option maxRecDepth 20000 in
theorem q_76_3905 (G : Nat × (Nat → Int32)) (d : Nat) (x1 : Int32) (x2 : Int32) (s0 : Int32) (σ : aH) : Lq G d M_76 (19, [some (.ref 33), some (.int x1), some (.int x2), none], [.int s0, .ref 33], σ) = aCV (Rn G d 73 [.ref 33, .int s0] σ) fun σ1 => Lq G d M_76 (22, [some (.ref 33), some (.int x1), some (.int x2), none], [], σ1) :=
  (aUn_eq (tkd G.1 G.2) tmi (aRun (tkd G.1 G.2) tmi tmt d) M_76 [] 1 (19, [some (.ref 33), some (.int x1), some (.int x2), none], [.int s0, .ref 33], σ)).trans rfl
set_option maxRecDepth 20000 in
theorem q_76_3906 (G : Nat × (Nat → Int32)) (d : Nat) (x1 : Int32) (x2 : Int32) (σ : aH) : Lq G d M_76 (22, [some (.ref 33), some (.int x1), some (.int x2), none], [], σ) = Lq G d M_76 (60, [some (.ref 33), some (.int x1), some (.int x2), some (.int (σ.1 33 23))], [.ref 33], σ) :=
  (aUn_eq (tkd G.1 G.2) tmi (aRun (tkd G.1 G.2) tmi tmt d) M_76 [] 5 (22, [some (.ref 33), some (.int x1), some (.int x2), none], [], σ)).trans rfl
set_option maxRecDepth 20000 in
theorem q_116_3907 (G : Nat × (Nat → Int32)) (d : Nat)  (σ : aH) : Lq G d M_116 (0, [some (.ref 17), some (.ref 3), some (.ref 13), none, none, none, none, none, none], [], σ) = Lq G d M_116 (2, [some (.ref 17), some (.ref 3), some (.ref 13), some (.int (0 : Int32)), none, none, none, none, none], [], σ) :=
  (aUn_eq (tkd G.1 G.2) tmi (aRun (tkd G.1 G.2) tmi tmt d) M_116 [] 2 (0, [some (.ref 17), some (.ref 3), some (.ref 13), none, none, none, none, none, none], [], σ)).trans rfl
set_option maxRecDepth 20000 in
theorem q_116_3908 (G : Nat × (Nat → Int32)) (d : Nat) (x3 : Int32) (σ : aH) : Lq G d M_116 (2, [some (.ref 17), some (.ref 3), some (.ref 13), some (.int x3), none, none, none, none, none], [], σ) = Lq G d M_116 (8, [some (.ref 17), some (.ref 3), some (.ref 13), some (.int x3), none, none, none, none, none], [.int (20 : Int32), .int x3], σ) :=
  (aUn_eq (tkd G.1 G.2) tmi (aRun (tkd G.1 G.2) tmi tmt d) M_116 [] 4 (2, [some (.ref 17), some (.ref 3), some (.ref 13), some (.int x3), none, none, none, none, none], [], σ)).trans rfl
set_option maxRecDepth 20000 in
theorem q_116_3909 (G : Nat × (Nat → Int32)) (d : Nat) (x3 : Int32) (s0 : Int32) (s1 : Int32) (σ : aH) : Lq G d M_116 (8, [some (.ref 17), some (.ref 3), some (.ref 13), some (.int x3), none, none, none, none, none], [.int s0, .int s1], σ) = if s0 ≤ s1 then Lq G d M_116 (26, [some (.ref 17), some (.ref 3), some (.ref 13), some (.int x3), none, none, none, none, none], [], σ) else Lq G d M_116 (11, [some (.ref 17), some (.ref 3), some (.ref 13), some (.int x3), none, none, none, none, none], [], σ) :=
  (aUn_eq (tkd G.1 G.2) tmi (aRun (tkd G.1 G.2) tmi tmt d) M_116 [] 1 (8, [some (.ref 17), some (.ref 3), some (.ref 13), some (.int x3), none, none, none, none, none], [.int s0, .int s1], σ)).trans rfl
set_option maxRecDepth 20000 in
theorem q_116_3910 (G : Nat × (Nat → Int32)) (d : Nat) (x3 : Int32) (σ : aH) : Lq G d M_116 (26, [some (.ref 17), some (.ref 3), some (.ref 13), some (.int x3), none, none, none, none, none], [], σ) = Lq G d M_116 (28, [some (.ref 17), some (.ref 3), some (.ref 13), some (.int x3), none, none, none, none, none], [.int (3 : Int32), .ref 3], σ) :=
  (aUn_eq (tkd G.1 G.2) tmi (aRun (tkd G.1 G.2) tmi tmt d) M_116 [] 2 (26, [some (.ref 17), some (.ref 3), some (.ref 13), some (.int x3), none, none, none, none, none], [], σ)).trans rfl
set_option maxRecDepth 20000 in
theorem q_116_3911 (G : Nat × (Nat → Int32)) (d : Nat) (x3 : Int32) (s0 : Int32) (σ : aH) : Lq G d M_116 (28, [some (.ref 17), some (.ref 3), some (.ref 13), some (.int x3), none, none, none, none, none], [.int s0, .ref 3], σ) = aCI (Rn G d 98 [.ref 3, .int s0] σ) fun v2 σ1 => Lq G d M_116 (31, [some (.ref 17), some (.ref 3), some (.ref 13), some (.int x3), none, none, none, none, none], [.int v2], σ1) :=
  (aUn_eq (tkd G.1 G.2) tmi (aRun (tkd G.1 G.2) tmi tmt d) M_116 [] 1 (28, [some (.ref 17), some (.ref 3), some (.ref 13), some (.int x3), none, none, none, none, none], [.int s0, .ref 3], σ)).trans rfl
set_option maxRecDepth 20000 in
theorem q_116_3912 (G : Nat × (Nat → Int32)) (d : Nat) (x3 : Int32) (s0 : Int32) (σ : aH) : Lq G d M_116 (31, [some (.ref 17), some (.ref 3), some (.ref 13), some (.int x3), none, none, none, none, none], [.int s0], σ) = Lq G d M_116 (35, [some (.ref 17), some (.ref 3), some (.ref 13), some (.int s0), some (.int (0 : Int32)), none, none, none, none], [], σ) :=
  (aUn_eq (tkd G.1 G.2) tmi (aRun (tkd G.1 G.2) tmi tmt d) M_116 [] 3 (31, [some (.ref 17), some (.ref 3), some (.ref 13), some (.int x3), none, none, none, none, none], [.int s0], σ)).trans rfl
set_option maxRecDepth 20000 in
theorem q_116_3913 (G : Nat × (Nat → Int32)) (d : Nat) (x3 : Int32) (σ : aH) : Lq G d M_116 (11, [some (.ref 17), some (.ref 3), some (.ref 13), some (.int x3), none, none, none, none, none], [], σ) = Lq G d M_116 (17, [some (.ref 17), some (.ref 3), some (.ref 13), some (.int x3), none, none, none, none, none], [.int (0 : Int32), .int x3, .ref 21], σ) :=
  (aUn_eq (tkd G.1 G.2) tmi (aRun (tkd G.1 G.2) tmi tmt d) M_116 [] 4 (11, [some (.ref 17), some (.ref 3), some (.ref 13), some (.int x3), none, none, none, none, none], [], σ)).trans rfl
set_option maxRecDepth 20000 in
theorem q_116_3914 (G : Nat × (Nat → Int32)) (d : Nat) (x3 : Int32) (s0 : Int32) (s1 : Int32) (σ : aH) : Lq G d M_116 (17, [some (.ref 17), some (.ref 3), some (.ref 13), some (.int x3), none, none, none, none, none], [.int s0, .int s1, .ref 21], σ) = aCV (Rn G d 24 [.ref 21, .int s1, .int s0] σ) fun σ1 => Lq G d M_116 (20, [some (.ref 17), some (.ref 3), some (.ref 13), some (.int x3), none, none, none, none, none], [], σ1) :=
  (aUn_eq (tkd G.1 G.2) tmi (aRun (tkd G.1 G.2) tmi tmt d) M_116 [] 1 (17, [some (.ref 17), some (.ref 3), some (.ref 13), some (.int x3), none, none, none, none, none], [.int s0, .int s1, .ref 21], σ)).trans rfl
set_option maxRecDepth 20000 in
theorem q_116_3915 (G : Nat × (Nat → Int32)) (d : Nat) (x3 : Int32) (σ : aH) : Lq G d M_116 (20, [some (.ref 17), some (.ref 3), some (.ref 13), some (.int x3), none, none, none, none, none], [], σ) = Lq G d M_116 (2, [some (.ref 17), some (.ref 3), some (.ref 13), some (.int (x3 + (1 : Int32))), none, none, none, none, none], [], σ) :=
  (aUn_eq (tkd G.1 G.2) tmi (aRun (tkd G.1 G.2) tmi tmt d) M_116 [] 2 (20, [some (.ref 17), some (.ref 3), some (.ref 13), some (.int x3), none, none, none, none, none], [], σ)).trans rfl
set_option maxRecDepth 20000 in
theorem q_116_3916 (G : Nat × (Nat → Int32)) (d : Nat) (x3 : Int32) (x4 : Int32) (σ : aH) : Lq G d M_116 (35, [some (.ref 17), some (.ref 3), some (.ref 13), some (.int x3), some (.int x4), none, none, none, none], [], σ) = Lq G d M_116 (41, [some (.ref 17), some (.ref 3), some (.ref 13), some (.int x3), some (.int x4), none, none, none, none], [.int (σ.1 13 1), .int x4], σ) :=
  (aUn_eq (tkd G.1 G.2) tmi (aRun (tkd G.1 G.2) tmi tmt d) M_116 [] 3 (35, [some (.ref 17), some (.ref 3), some (.ref 13), some (.int x3), some (.int x4), none, none, none, none], [], σ)).trans rfl
set_option maxRecDepth 20000 in
theorem q_116_3917 (G : Nat × (Nat → Int32)) (d : Nat) (x3 : Int32) (x4 : Int32) (s0 : Int32) (s1 : Int32) (σ : aH) : Lq G d M_116 (41, [some (.ref 17), some (.ref 3), some (.ref 13), some (.int x3), some (.int x4), none, none, none, none], [.int s0, .int s1], σ) = if s0 ≤ s1 then Lq G d M_116 (160, [some (.ref 17), some (.ref 3), some (.ref 13), some (.int x3), some (.int x4), none, none, none, none], [], σ) else Lq G d M_116 (44, [some (.ref 17), some (.ref 3), some (.ref 13), some (.int x3), some (.int x4), none, none, none, none], [], σ) :=
  (aUn_eq (tkd G.1 G.2) tmi (aRun (tkd G.1 G.2) tmi tmt d) M_116 [] 1 (41, [some (.ref 17), some (.ref 3), some (.ref 13), some (.int x3), some (.int x4), none, none, none, none], [.int s0, .int s1], σ)).trans rfl
set_option maxRecDepth 20000 in
theorem q_116_3918 (G : Nat × (Nat → Int32)) (d : Nat) (x3 : Int32) (x4 : Int32) (σ : aH) : Lq G d M_116 (160, [some (.ref 17), some (.ref 3), some (.ref 13), some (.int x3), some (.int x4), none, none, none, none], [], σ) = some (.inl none, σ) :=
  (aUn_eq (tkd G.1 G.2) tmi (aRun (tkd G.1 G.2) tmi tmt d) M_116 [] 1 (160, [some (.ref 17), some (.ref 3), some (.ref 13), some (.int x3), some (.int x4), none, none, none, none], [], σ)).trans rfl
set_option maxRecDepth 20000 in
theorem q_116_3919 (G : Nat × (Nat → Int32)) (d : Nat) (x3 : Int32) (x4 : Int32) (σ : aH) : Lq G d M_116 (44, [some (.ref 17), some (.ref 3), some (.ref 13), some (.int x3), some (.int x4), none, none, none, none], [], σ) = Lq G d M_116 (50, [some (.ref 17), some (.ref 3), some (.ref 13), some (.int x3), some (.int x4), some (.int (0 : Int32)), some (.int (0 : Int32)), none, none], [], σ) :=
  (aUn_eq (tkd G.1 G.2) tmi (aRun (tkd G.1 G.2) tmi tmt d) M_116 [] 4 (44, [some (.ref 17), some (.ref 3), some (.ref 13), some (.int x3), some (.int x4), none, none, none, none], [], σ)).trans rfl
set_option maxRecDepth 20000 in
theorem q_116_3920 (G : Nat × (Nat → Int32)) (d : Nat) (x3 : Int32) (x4 : Int32) (x5 : Int32) (x6 : Int32) (σ : aH) : Lq G d M_116 (50, [some (.ref 17), some (.ref 3), some (.ref 13), some (.int x3), some (.int x4), some (.int x5), some (.int x6), none, none], [], σ) = Lq G d M_116 (53, [some (.ref 17), some (.ref 3), some (.ref 13), some (.int x3), some (.int x4), some (.int x5), some (.int x6), some (.int (0 : Int32)), none], [], σ) :=
  (aUn_eq (tkd G.1 G.2) tmi (aRun (tkd G.1 G.2) tmi tmt d) M_116 [] 2 (50, [some (.ref 17), some (.ref 3), some (.ref 13), some (.int x3), some (.int x4), some (.int x5), some (.int x6), none, none], [], σ)).trans rfl
set_option maxRecDepth 20000 in
theorem q_116_3921 (G : Nat × (Nat → Int32)) (d : Nat) (x3 : Int32) (x4 : Int32) (x5 : Int32) (x6 : Int32) (x7 : Int32) (σ : aH) : Lq G d M_116 (53, [some (.ref 17), some (.ref 3), some (.ref 13), some (.int x3), some (.int x4), some (.int x5), some (.int x6), some (.int x7), none], [], σ) = Lq G d M_116 (56, [some (.ref 17), some (.ref 3), some (.ref 13), some (.int x3), some (.int x4), some (.int x5), some (.int x6), some (.int x7), none], [.int x3, .int x7], σ) :=
  (aUn_eq (tkd G.1 G.2) tmi (aRun (tkd G.1 G.2) tmi tmt d) M_116 [] 2 (53, [some (.ref 17), some (.ref 3), some (.ref 13), some (.int x3), some (.int x4), some (.int x5), some (.int x6), some (.int x7), none], [], σ)).trans rfl
set_option maxRecDepth 20000 in
theorem q_116_3922 (G : Nat × (Nat → Int32)) (d : Nat) (x3 : Int32) (x4 : Int32) (x5 : Int32) (x6 : Int32) (x7 : Int32) (s0 : Int32) (s1 : Int32) (σ : aH) : Lq G d M_116 (56, [some (.ref 17), some (.ref 3), some (.ref 13), some (.int x3), some (.int x4), some (.int x5), some (.int x6), some (.int x7), none], [.int s0, .int s1], σ) = if s0 ≤ s1 then Lq G d M_116 (101, [some (.ref 17), some (.ref 3), some (.ref 13), some (.int x3), some (.int x4), some (.int x5), some (.int x6), some (.int x7), none], [], σ) else Lq G d M_116 (59, [some (.ref 17), some (.ref 3), some (.ref 13), some (.int x3), some (.int x4), some (.int x5), some (.int x6), some (.int x7), none], [], σ) :=
  (aUn_eq (tkd G.1 G.2) tmi (aRun (tkd G.1 G.2) tmi tmt d) M_116 [] 1 (56, [some (.ref 17), some (.ref 3), some (.ref 13), some (.int x3), some (.int x4), some (.int x5), some (.int x6), some (.int x7), none], [.int s0, .int s1], σ)).trans rfl
set_option maxRecDepth 20000 in
theorem q_116_3923 (G : Nat × (Nat → Int32)) (d : Nat) (x3 : Int32) (x4 : Int32) (x5 : Int32) (x6 : Int32) (x7 : Int32) (σ : aH) : Lq G d M_116 (101, [some (.ref 17), some (.ref 3), some (.ref 13), some (.int x3), some (.int x4), some (.int x5), some (.int x6), some (.int x7), none], [], σ) = Lq G d M_116 (109, [some (.ref 17), some (.ref 3), some (.ref 13), some (.int x3), some (.int x4), some (.int x5), some (.int x6), some (.int x7), none], [.int x5, .int x4, .ref 19], σ) :=
  (aUn_eq (tkd G.1 G.2) tmi (aRun (tkd G.1 G.2) tmi tmt d) M_116 [] 4 (101, [some (.ref 17), some (.ref 3), some (.ref 13), some (.int x3), some (.int x4), some (.int x5), some (.int x6), some (.int x7), none], [], σ)).trans rfl
set_option maxRecDepth 20000 in
theorem q_116_3924 (G : Nat × (Nat → Int32)) (d : Nat) (x3 : Int32) (x4 : Int32) (x5 : Int32) (x6 : Int32) (x7 : Int32) (s0 : Int32) (s1 : Int32) (σ : aH) : Lq G d M_116 (109, [some (.ref 17), some (.ref 3), some (.ref 13), some (.int x3), some (.int x4), some (.int x5), some (.int x6), some (.int x7), none], [.int s0, .int s1, .ref 19], σ) = aCV (Rn G d 24 [.ref 19, .int s1, .int s0] σ) fun σ1 => Lq G d M_116 (112, [some (.ref 17), some (.ref 3), some (.ref 13), some (.int x3), some (.int x4), some (.int x5), some (.int x6), some (.int x7), none], [], σ1) :=
  (aUn_eq (tkd G.1 G.2) tmi (aRun (tkd G.1 G.2) tmi tmt d) M_116 [] 1 (109, [some (.ref 17), some (.ref 3), some (.ref 13), some (.int x3), some (.int x4), some (.int x5), some (.int x6), some (.int x7), none], [.int s0, .int s1, .ref 19], σ)).trans rfl
set_option maxRecDepth 20000 in
theorem q_116_3925 (G : Nat × (Nat → Int32)) (d : Nat) (x3 : Int32) (x4 : Int32) (x5 : Int32) (x6 : Int32) (x7 : Int32) (σ : aH) : Lq G d M_116 (112, [some (.ref 17), some (.ref 3), some (.ref 13), some (.int x3), some (.int x4), some (.int x5), some (.int x6), some (.int x7), none], [], σ) = Lq G d M_116 (120, [some (.ref 17), some (.ref 3), some (.ref 13), some (.int x3), some (.int x4), some (.int x5), some (.int x6), some (.int x7), none], [.int x6, .int x4, .ref 20], σ) :=
  (aUn_eq (tkd G.1 G.2) tmi (aRun (tkd G.1 G.2) tmi tmt d) M_116 [] 4 (112, [some (.ref 17), some (.ref 3), some (.ref 13), some (.int x3), some (.int x4), some (.int x5), some (.int x6), some (.int x7), none], [], σ)).trans rfl
set_option maxRecDepth 20000 in
theorem q_116_3926 (G : Nat × (Nat → Int32)) (d : Nat) (x3 : Int32) (x4 : Int32) (x5 : Int32) (x6 : Int32) (x7 : Int32) (s0 : Int32) (s1 : Int32) (σ : aH) : Lq G d M_116 (120, [some (.ref 17), some (.ref 3), some (.ref 13), some (.int x3), some (.int x4), some (.int x5), some (.int x6), some (.int x7), none], [.int s0, .int s1, .ref 20], σ) = aCV (Rn G d 24 [.ref 20, .int s1, .int s0] σ) fun σ1 => Lq G d M_116 (123, [some (.ref 17), some (.ref 3), some (.ref 13), some (.int x3), some (.int x4), some (.int x5), some (.int x6), some (.int x7), none], [], σ1) :=
  (aUn_eq (tkd G.1 G.2) tmi (aRun (tkd G.1 G.2) tmi tmt d) M_116 [] 1 (120, [some (.ref 17), some (.ref 3), some (.ref 13), some (.int x3), some (.int x4), some (.int x5), some (.int x6), some (.int x7), none], [.int s0, .int s1, .ref 20], σ)).trans rfl
set_option maxRecDepth 20000 in
theorem q_116_3927 (G : Nat × (Nat → Int32)) (d : Nat) (x3 : Int32) (x4 : Int32) (x5 : Int32) (x6 : Int32) (x7 : Int32) (σ : aH) : Lq G d M_116 (123, [some (.ref 17), some (.ref 3), some (.ref 13), some (.int x3), some (.int x4), some (.int x5), some (.int x6), some (.int x7), none], [], σ) = Lq G d M_116 (128, [some (.ref 17), some (.ref 3), some (.ref 13), some (.int x3), some (.int x4), some (.int x5), some (.int x6), some (.int x7), none], [.int (16 : Int32), .int x4, .ref 13], σ) :=
  (aUn_eq (tkd G.1 G.2) tmi (aRun (tkd G.1 G.2) tmi tmt d) M_116 [] 3 (123, [some (.ref 17), some (.ref 3), some (.ref 13), some (.int x3), some (.int x4), some (.int x5), some (.int x6), some (.int x7), none], [], σ)).trans rfl
set_option maxRecDepth 20000 in
theorem q_116_3928 (G : Nat × (Nat → Int32)) (d : Nat) (x3 : Int32) (x4 : Int32) (x5 : Int32) (x6 : Int32) (x7 : Int32) (s0 : Int32) (s1 : Int32) (σ : aH) : Lq G d M_116 (128, [some (.ref 17), some (.ref 3), some (.ref 13), some (.int x3), some (.int x4), some (.int x5), some (.int x6), some (.int x7), none], [.int s0, .int s1, .ref 13], σ) = aCI (Rn G d 117 [.ref 13, .int s1, .int s0] σ) fun v2 σ1 => Lq G d M_116 (131, [some (.ref 17), some (.ref 3), some (.ref 13), some (.int x3), some (.int x4), some (.int x5), some (.int x6), some (.int x7), none], [.int v2], σ1) :=
  (aUn_eq (tkd G.1 G.2) tmi (aRun (tkd G.1 G.2) tmi tmt d) M_116 [] 1 (128, [some (.ref 17), some (.ref 3), some (.ref 13), some (.int x3), some (.int x4), some (.int x5), some (.int x6), some (.int x7), none], [.int s0, .int s1, .ref 13], σ)).trans rfl
set_option maxRecDepth 20000 in
theorem q_116_3929 (G : Nat × (Nat → Int32)) (d : Nat) (x3 : Int32) (x4 : Int32) (x5 : Int32) (x6 : Int32) (x7 : Int32) (s0 : Int32) (σ : aH) : Lq G d M_116 (131, [some (.ref 17), some (.ref 3), some (.ref 13), some (.int x3), some (.int x4), some (.int x5), some (.int x6), some (.int x7), none], [.int s0], σ) = Lq G d M_116 (145, [some (.ref 17), some (.ref 3), some (.ref 13), some (.int x3), some (.int x4), some (.int x5), some (.int x6), some (.int s0), none], [.int s0, .ref 21, .int s0, .ref 21], σ) :=
  (aUn_eq (tkd G.1 G.2) tmi (aRun (tkd G.1 G.2) tmi tmt d) M_116 [] 7 (131, [some (.ref 17), some (.ref 3), some (.ref 13), some (.int x3), some (.int x4), some (.int x5), some (.int x6), some (.int x7), none], [.int s0], σ)).trans rfl
set_option maxRecDepth 20000 in
theorem q_116_3930 (G : Nat × (Nat → Int32)) (d : Nat) (x3 : Int32) (x4 : Int32) (x5 : Int32) (x6 : Int32) (x7 : Int32) (s0 : Int32) (s2 : Int32) (σ : aH) : Lq G d M_116 (145, [some (.ref 17), some (.ref 3), some (.ref 13), some (.int x3), some (.int x4), some (.int x5), some (.int x6), some (.int x7), none], [.int s0, .ref 21, .int s2, .ref 21], σ) = aCI (Rn G d 32 [.ref 21, .int s0] σ) fun v2 σ1 => Lq G d M_116 (148, [some (.ref 17), some (.ref 3), some (.ref 13), some (.int x3), some (.int x4), some (.int x5), some (.int x6), some (.int x7), none], [.int v2, .int s2, .ref 21], σ1) :=
  (aUn_eq (tkd G.1 G.2) tmi (aRun (tkd G.1 G.2) tmi tmt d) M_116 [] 1 (145, [some (.ref 17), some (.ref 3), some (.ref 13), some (.int x3), some (.int x4), some (.int x5), some (.int x6), some (.int x7), none], [.int s0, .ref 21, .int s2, .ref 21], σ)).trans rfl
set_option maxRecDepth 20000 in
theorem q_116_3931 (G : Nat × (Nat → Int32)) (d : Nat) (x3 : Int32) (x4 : Int32) (x5 : Int32) (x6 : Int32) (x7 : Int32) (s0 : Int32) (s1 : Int32) (σ : aH) : Lq G d M_116 (148, [some (.ref 17), some (.ref 3), some (.ref 13), some (.int x3), some (.int x4), some (.int x5), some (.int x6), some (.int x7), none], [.int s0, .int s1, .ref 21], σ) = Lq G d M_116 (151, [some (.ref 17), some (.ref 3), some (.ref 13), some (.int x3), some (.int x4), some (.int x5), some (.int x6), some (.int x7), none], [.int (s0 + x6), .int s1, .ref 21], σ) :=
  (aUn_eq (tkd G.1 G.2) tmi (aRun (tkd G.1 G.2) tmi tmt d) M_116 [] 2 (148, [some (.ref 17), some (.ref 3), some (.ref 13), some (.int x3), some (.int x4), some (.int x5), some (.int x6), some (.int x7), none], [.int s0, .int s1, .ref 21], σ)).trans rfl
set_option maxRecDepth 20000 in
theorem q_116_3932 (G : Nat × (Nat → Int32)) (d : Nat) (x3 : Int32) (x4 : Int32) (x5 : Int32) (x6 : Int32) (x7 : Int32) (s0 : Int32) (s1 : Int32) (σ : aH) : Lq G d M_116 (151, [some (.ref 17), some (.ref 3), some (.ref 13), some (.int x3), some (.int x4), some (.int x5), some (.int x6), some (.int x7), none], [.int s0, .int s1, .ref 21], σ) = aCV (Rn G d 24 [.ref 21, .int s1, .int s0] σ) fun σ1 => Lq G d M_116 (154, [some (.ref 17), some (.ref 3), some (.ref 13), some (.int x3), some (.int x4), some (.int x5), some (.int x6), some (.int x7), none], [], σ1) :=
  (aUn_eq (tkd G.1 G.2) tmi (aRun (tkd G.1 G.2) tmi tmt d) M_116 [] 1 (151, [some (.ref 17), some (.ref 3), some (.ref 13), some (.int x3), some (.int x4), some (.int x5), some (.int x6), some (.int x7), none], [.int s0, .int s1, .ref 21], σ)).trans rfl
set_option maxRecDepth 20000 in
theorem q_116_3933 (G : Nat × (Nat → Int32)) (d : Nat) (x3 : Int32) (x4 : Int32) (x5 : Int32) (x6 : Int32) (x7 : Int32) (σ : aH) : Lq G d M_116 (154, [some (.ref 17), some (.ref 3), some (.ref 13), some (.int x3), some (.int x4), some (.int x5), some (.int x6), some (.int x7), none], [], σ) = Lq G d M_116 (35, [some (.ref 17), some (.ref 3), some (.ref 13), some (.int x3), some (.int (x4 + (1 : Int32))), none, none, none, none], [], σ) :=
  (aUn_eq (tkd G.1 G.2) tmi (aRun (tkd G.1 G.2) tmi tmt d) M_116 [] 2 (154, [some (.ref 17), some (.ref 3), some (.ref 13), some (.int x3), some (.int x4), some (.int x5), some (.int x6), some (.int x7), none], [], σ)).trans rfl
set_option maxRecDepth 20000 in
theorem q_116_3934 (G : Nat × (Nat → Int32)) (d : Nat) (x3 : Int32) (x4 : Int32) (x5 : Int32) (x6 : Int32) (x7 : Int32) (σ : aH) : Lq G d M_116 (59, [some (.ref 17), some (.ref 3), some (.ref 13), some (.int x3), some (.int x4), some (.int x5), some (.int x6), some (.int x7), none], [], σ) = Lq G d M_116 (64, [some (.ref 17), some (.ref 3), some (.ref 13), some (.int x3), some (.int x4), some (.int x5), some (.int x6), some (.int x7), none], [.int x7, .int x4, .ref 13], σ) :=
  (aUn_eq (tkd G.1 G.2) tmi (aRun (tkd G.1 G.2) tmi tmt d) M_116 [] 3 (59, [some (.ref 17), some (.ref 3), some (.ref 13), some (.int x3), some (.int x4), some (.int x5), some (.int x6), some (.int x7), none], [], σ)).trans rfl
set_option maxRecDepth 20000 in
theorem q_116_3935 (G : Nat × (Nat → Int32)) (d : Nat) (x3 : Int32) (x4 : Int32) (x5 : Int32) (x6 : Int32) (x7 : Int32) (s0 : Int32) (s1 : Int32) (σ : aH) : Lq G d M_116 (64, [some (.ref 17), some (.ref 3), some (.ref 13), some (.int x3), some (.int x4), some (.int x5), some (.int x6), some (.int x7), none], [.int s0, .int s1, .ref 13], σ) = aCI (Rn G d 117 [.ref 13, .int s1, .int s0] σ) fun v2 σ1 => Lq G d M_116 (67, [some (.ref 17), some (.ref 3), some (.ref 13), some (.int x3), some (.int x4), some (.int x5), some (.int x6), some (.int x7), none], [.int v2], σ1) :=
  (aUn_eq (tkd G.1 G.2) tmi (aRun (tkd G.1 G.2) tmi tmt d) M_116 [] 1 (64, [some (.ref 17), some (.ref 3), some (.ref 13), some (.int x3), some (.int x4), some (.int x5), some (.int x6), some (.int x7), none], [.int s0, .int s1, .ref 13], σ)).trans rfl
set_option maxRecDepth 20000 in
theorem q_116_3936 (G : Nat × (Nat → Int32)) (d : Nat) (x3 : Int32) (x4 : Int32) (x5 : Int32) (x6 : Int32) (x7 : Int32) (s0 : Int32) (σ : aH) : Lq G d M_116 (67, [some (.ref 17), some (.ref 3), some (.ref 13), some (.int x3), some (.int x4), some (.int x5), some (.int x6), some (.int x7), none], [.int s0], σ) = Lq G d M_116 (72, [some (.ref 17), some (.ref 3), some (.ref 13), some (.int x3), some (.int x4), some (.int x5), some (.int x6), some (.int x7), some (.int s0)], [.int x7, .ref 3], σ) :=
  (aUn_eq (tkd G.1 G.2) tmi (aRun (tkd G.1 G.2) tmi tmt d) M_116 [] 3 (67, [some (.ref 17), some (.ref 3), some (.ref 13), some (.int x3), some (.int x4), some (.int x5), some (.int x6), some (.int x7), none], [.int s0], σ)).trans rfl
set_option maxRecDepth 20000 in
theorem q_116_3937 (G : Nat × (Nat → Int32)) (d : Nat) (x3 : Int32) (x4 : Int32) (x5 : Int32) (x6 : Int32) (x7 : Int32) (x8 : Int32) (s0 : Int32) (σ : aH) : Lq G d M_116 (72, [some (.ref 17), some (.ref 3), some (.ref 13), some (.int x3), some (.int x4), some (.int x5), some (.int x6), some (.int x7), some (.int x8)], [.int s0, .ref 3], σ) = aCI (Rn G d 118 [.ref 3, .int s0] σ) fun v2 σ1 => Lq G d M_116 (75, [some (.ref 17), some (.ref 3), some (.ref 13), some (.int x3), some (.int x4), some (.int x5), some (.int x6), some (.int x7), some (.int x8)], [.int v2], σ1) :=
  (aUn_eq (tkd G.1 G.2) tmi (aRun (tkd G.1 G.2) tmi tmt d) M_116 [] 1 (72, [some (.ref 17), some (.ref 3), some (.ref 13), some (.int x3), some (.int x4), some (.int x5), some (.int x6), some (.int x7), some (.int x8)], [.int s0, .ref 3], σ)).trans rfl
set_option maxRecDepth 20000 in
theorem q_116_3938 (G : Nat × (Nat → Int32)) (d : Nat) (x3 : Int32) (x4 : Int32) (x5 : Int32) (x6 : Int32) (x7 : Int32) (x8 : Int32) (s0 : Int32) (σ : aH) : Lq G d M_116 (75, [some (.ref 17), some (.ref 3), some (.ref 13), some (.int x3), some (.int x4), some (.int x5), some (.int x6), some (.int x7), some (.int x8)], [.int s0], σ) = if s0 = 0 then Lq G d M_116 (88, [some (.ref 17), some (.ref 3), some (.ref 13), some (.int x3), some (.int x4), some (.int x5), some (.int x6), some (.int x7), some (.int x8)], [], σ) else Lq G d M_116 (78, [some (.ref 17), some (.ref 3), some (.ref 13), some (.int x3), some (.int x4), some (.int x5), some (.int x6), some (.int x7), some (.int x8)], [], σ) :=
  (aUn_eq (tkd G.1 G.2) tmi (aRun (tkd G.1 G.2) tmi tmt d) M_116 [] 1 (75, [some (.ref 17), some (.ref 3), some (.ref 13), some (.int x3), some (.int x4), some (.int x5), some (.int x6), some (.int x7), some (.int x8)], [.int s0], σ)).trans rfl
set_option maxRecDepth 20000 in
theorem q_116_3939 (G : Nat × (Nat → Int32)) (d : Nat) (x3 : Int32) (x4 : Int32) (x5 : Int32) (x6 : Int32) (x7 : Int32) (x8 : Int32) (σ : aH) : Lq G d M_116 (88, [some (.ref 17), some (.ref 3), some (.ref 13), some (.int x3), some (.int x4), some (.int x5), some (.int x6), some (.int x7), some (.int x8)], [], σ) = Lq G d M_116 (98, [some (.ref 17), some (.ref 3), some (.ref 13), some (.int x3), some (.int x4), some (.int (x5 + x8)), some (.int x6), some (.int (x7 + (1 : Int32))), some (.int x8)], [], σ) :=
  (aUn_eq (tkd G.1 G.2) tmi (aRun (tkd G.1 G.2) tmi tmt d) M_116 [] 5 (88, [some (.ref 17), some (.ref 3), some (.ref 13), some (.int x3), some (.int x4), some (.int x5), some (.int x6), some (.int x7), some (.int x8)], [], σ)).trans rfl
set_option maxRecDepth 20000 in
theorem q_116_3940 (G : Nat × (Nat → Int32)) (d : Nat) (x3 : Int32) (x4 : Int32) (x5 : Int32) (x6 : Int32) (x7 : Int32) (x8 : Int32) (σ : aH) : Lq G d M_116 (98, [some (.ref 17), some (.ref 3), some (.ref 13), some (.int x3), some (.int x4), some (.int x5), some (.int x6), some (.int x7), some (.int x8)], [], σ) = Lq G d M_116 (53, [some (.ref 17), some (.ref 3), some (.ref 13), some (.int x3), some (.int x4), some (.int x5), some (.int x6), some (.int x7), none], [], σ) :=
  (aUn_eq (tkd G.1 G.2) tmi (aRun (tkd G.1 G.2) tmi tmt d) M_116 [] 1 (98, [some (.ref 17), some (.ref 3), some (.ref 13), some (.int x3), some (.int x4), some (.int x5), some (.int x6), some (.int x7), some (.int x8)], [], σ)).trans rfl
set_option maxRecDepth 20000 in
theorem q_116_3941 (G : Nat × (Nat → Int32)) (d : Nat) (x3 : Int32) (x4 : Int32) (x5 : Int32) (x6 : Int32) (x7 : Int32) (x8 : Int32) (σ : aH) : Lq G d M_116 (78, [some (.ref 17), some (.ref 3), some (.ref 13), some (.int x3), some (.int x4), some (.int x5), some (.int x6), some (.int x7), some (.int x8)], [], σ) = Lq G d M_116 (98, [some (.ref 17), some (.ref 3), some (.ref 13), some (.int x3), some (.int x4), some (.int x5), some (.int (x6 + x8)), some (.int (x7 + (1 : Int32))), some (.int x8)], [], σ) :=
  (aUn_eq (tkd G.1 G.2) tmi (aRun (tkd G.1 G.2) tmi tmt d) M_116 [] 6 (78, [some (.ref 17), some (.ref 3), some (.ref 13), some (.int x3), some (.int x4), some (.int x5), some (.int x6), some (.int x7), some (.int x8)], [], σ)).trans rfl
set_option maxRecDepth 20000 in
theorem q_120_3942 (G : Nat × (Nat → Int32)) (d : Nat) (x3 : Int32) (σ : aH) : Lq G d M_120 (0, [some (.ref 17), some (.ref 3), some (.ref 13), some (.int x3), none], [], σ) = Lq G d M_120 (7, [some (.ref 17), some (.ref 3), some (.ref 13), some (.int x3), none], [.int x3, .ref 17, .int (0 : Int32), .ref 22], σ) :=
  (aUn_eq (tkd G.1 G.2) tmi (aRun (tkd G.1 G.2) tmi tmt d) M_120 [] 5 (0, [some (.ref 17), some (.ref 3), some (.ref 13), some (.int x3), none], [], σ)).trans rfl
set_option maxRecDepth 20000 in
theorem q_120_3943 (G : Nat × (Nat → Int32)) (d : Nat) (x3 : Int32) (s0 : Int32) (s2 : Int32) (σ : aH) : Lq G d M_120 (7, [some (.ref 17), some (.ref 3), some (.ref 13), some (.int x3), none], [.int s0, .ref 17, .int s2, .ref 22], σ) = aCI (Rn G d 121 [.ref 17, .int s0] σ) fun v2 σ1 => Lq G d M_120 (10, [some (.ref 17), some (.ref 3), some (.ref 13), some (.int x3), none], [.int v2, .int s2, .ref 22], σ1) :=
  (aUn_eq (tkd G.1 G.2) tmi (aRun (tkd G.1 G.2) tmi tmt d) M_120 [] 1 (7, [some (.ref 17), some (.ref 3), some (.ref 13), some (.int x3), none], [.int s0, .ref 17, .int s2, .ref 22], σ)).trans rfl
set_option maxRecDepth 20000 in
theorem q_120_3944 (G : Nat × (Nat → Int32)) (d : Nat) (x3 : Int32) (s0 : Int32) (s1 : Int32) (σ : aH) : Lq G d M_120 (10, [some (.ref 17), some (.ref 3), some (.ref 13), some (.int x3), none], [.int s0, .int s1, .ref 22], σ) = aCV (Rn G d 24 [.ref 22, .int s1, .int s0] σ) fun σ1 => Lq G d M_120 (13, [some (.ref 17), some (.ref 3), some (.ref 13), some (.int x3), none], [], σ1) :=
  (aUn_eq (tkd G.1 G.2) tmi (aRun (tkd G.1 G.2) tmi tmt d) M_120 [] 1 (10, [some (.ref 17), some (.ref 3), some (.ref 13), some (.int x3), none], [.int s0, .int s1, .ref 22], σ)).trans rfl
set_option maxRecDepth 20000 in
theorem q_120_3945 (G : Nat × (Nat → Int32)) (d : Nat) (x3 : Int32) (σ : aH) : Lq G d M_120 (13, [some (.ref 17), some (.ref 3), some (.ref 13), some (.int x3), none], [], σ) = Lq G d M_120 (20, [some (.ref 17), some (.ref 3), some (.ref 13), some (.int x3), none], [.int x3, .ref 17, .int (1 : Int32), .ref 22], σ) :=
  (aUn_eq (tkd G.1 G.2) tmi (aRun (tkd G.1 G.2) tmi tmt d) M_120 [] 5 (13, [some (.ref 17), some (.ref 3), some (.ref 13), some (.int x3), none], [], σ)).trans rfl
set_option maxRecDepth 20000 in
theorem q_120_3946 (G : Nat × (Nat → Int32)) (d : Nat) (x3 : Int32) (s0 : Int32) (s2 : Int32) (σ : aH) : Lq G d M_120 (20, [some (.ref 17), some (.ref 3), some (.ref 13), some (.int x3), none], [.int s0, .ref 17, .int s2, .ref 22], σ) = aCI (Rn G d 122 [.ref 17, .int s0] σ) fun v2 σ1 => Lq G d M_120 (23, [some (.ref 17), some (.ref 3), some (.ref 13), some (.int x3), none], [.int v2, .int s2, .ref 22], σ1) :=
  (aUn_eq (tkd G.1 G.2) tmi (aRun (tkd G.1 G.2) tmi tmt d) M_120 [] 1 (20, [some (.ref 17), some (.ref 3), some (.ref 13), some (.int x3), none], [.int s0, .ref 17, .int s2, .ref 22], σ)).trans rfl
set_option maxRecDepth 20000 in
theorem q_120_3947 (G : Nat × (Nat → Int32)) (d : Nat) (x3 : Int32) (s0 : Int32) (s1 : Int32) (σ : aH) : Lq G d M_120 (23, [some (.ref 17), some (.ref 3), some (.ref 13), some (.int x3), none], [.int s0, .int s1, .ref 22], σ) = aCV (Rn G d 24 [.ref 22, .int s1, .int s0] σ) fun σ1 => Lq G d M_120 (26, [some (.ref 17), some (.ref 3), some (.ref 13), some (.int x3), none], [], σ1) :=
  (aUn_eq (tkd G.1 G.2) tmi (aRun (tkd G.1 G.2) tmi tmt d) M_120 [] 1 (23, [some (.ref 17), some (.ref 3), some (.ref 13), some (.int x3), none], [.int s0, .int s1, .ref 22], σ)).trans rfl
set_option maxRecDepth 20000 in
theorem q_120_3948 (G : Nat × (Nat → Int32)) (d : Nat) (x3 : Int32) (σ : aH) : Lq G d M_120 (26, [some (.ref 17), some (.ref 3), some (.ref 13), some (.int x3), none], [], σ) = Lq G d M_120 (29, [some (.ref 17), some (.ref 3), some (.ref 13), some (.int x3), some (.int (0 : Int32))], [], σ) :=
  (aUn_eq (tkd G.1 G.2) tmi (aRun (tkd G.1 G.2) tmi tmt d) M_120 [] 2 (26, [some (.ref 17), some (.ref 3), some (.ref 13), some (.int x3), none], [], σ)).trans rfl
set_option maxRecDepth 20000 in
theorem q_120_3949 (G : Nat × (Nat → Int32)) (d : Nat) (x3 : Int32) (x4 : Int32) (σ : aH) : Lq G d M_120 (29, [some (.ref 17), some (.ref 3), some (.ref 13), some (.int x3), some (.int x4)], [], σ) = Lq G d M_120 (32, [some (.ref 17), some (.ref 3), some (.ref 13), some (.int x3), some (.int x4)], [.int (3 : Int32), .int x4], σ) :=
  (aUn_eq (tkd G.1 G.2) tmi (aRun (tkd G.1 G.2) tmi tmt d) M_120 [] 2 (29, [some (.ref 17), some (.ref 3), some (.ref 13), some (.int x3), some (.int x4)], [], σ)).trans rfl
set_option maxRecDepth 20000 in
theorem q_120_3950 (G : Nat × (Nat → Int32)) (d : Nat) (x3 : Int32) (x4 : Int32) (s0 : Int32) (s1 : Int32) (σ : aH) : Lq G d M_120 (32, [some (.ref 17), some (.ref 3), some (.ref 13), some (.int x3), some (.int x4)], [.int s0, .int s1], σ) = if s0 ≤ s1 then Lq G d M_120 (62, [some (.ref 17), some (.ref 3), some (.ref 13), some (.int x3), some (.int x4)], [], σ) else Lq G d M_120 (35, [some (.ref 17), some (.ref 3), some (.ref 13), some (.int x3), some (.int x4)], [], σ) :=
  (aUn_eq (tkd G.1 G.2) tmi (aRun (tkd G.1 G.2) tmi tmt d) M_120 [] 1 (32, [some (.ref 17), some (.ref 3), some (.ref 13), some (.int x3), some (.int x4)], [.int s0, .int s1], σ)).trans rfl
set_option maxRecDepth 20000 in
theorem q_120_3951 (G : Nat × (Nat → Int32)) (d : Nat) (x3 : Int32) (x4 : Int32) (σ : aH) : Lq G d M_120 (62, [some (.ref 17), some (.ref 3), some (.ref 13), some (.int x3), some (.int x4)], [], σ) = Lq G d M_120 (65, [some (.ref 17), some (.ref 3), some (.ref 13), some (.int x3), some (.int (0 : Int32))], [], σ) :=
  (aUn_eq (tkd G.1 G.2) tmi (aRun (tkd G.1 G.2) tmi tmt d) M_120 [] 2 (62, [some (.ref 17), some (.ref 3), some (.ref 13), some (.int x3), some (.int x4)], [], σ)).trans rfl
set_option maxRecDepth 20000 in
theorem q_120_3952 (G : Nat × (Nat → Int32)) (d : Nat) (x3 : Int32) (x4 : Int32) (σ : aH) : Lq G d M_120 (35, [some (.ref 17), some (.ref 3), some (.ref 13), some (.int x3), some (.int x4)], [], σ) = Lq G d M_120 (50, [some (.ref 17), some (.ref 3), some (.ref 13), some (.int x3), some (.int x4)], [.int ((12 : Int32) + x4), .int x3, .ref 13, .int ((2 : Int32) + x4), .ref 22], σ) :=
  (aUn_eq (tkd G.1 G.2) tmi (aRun (tkd G.1 G.2) tmi tmt d) M_120 [] 10 (35, [some (.ref 17), some (.ref 3), some (.ref 13), some (.int x3), some (.int x4)], [], σ)).trans rfl
set_option maxRecDepth 20000 in
theorem q_120_3953 (G : Nat × (Nat → Int32)) (d : Nat) (x3 : Int32) (x4 : Int32) (s0 : Int32) (s1 : Int32) (s3 : Int32) (σ : aH) : Lq G d M_120 (50, [some (.ref 17), some (.ref 3), some (.ref 13), some (.int x3), some (.int x4)], [.int s0, .int s1, .ref 13, .int s3, .ref 22], σ) = aCI (Rn G d 117 [.ref 13, .int s1, .int s0] σ) fun v2 σ1 => Lq G d M_120 (53, [some (.ref 17), some (.ref 3), some (.ref 13), some (.int x3), some (.int x4)], [.int v2, .int s3, .ref 22], σ1) :=
  (aUn_eq (tkd G.1 G.2) tmi (aRun (tkd G.1 G.2) tmi tmt d) M_120 [] 1 (50, [some (.ref 17), some (.ref 3), some (.ref 13), some (.int x3), some (.int x4)], [.int s0, .int s1, .ref 13, .int s3, .ref 22], σ)).trans rfl
set_option maxRecDepth 20000 in
theorem q_120_3954 (G : Nat × (Nat → Int32)) (d : Nat) (x3 : Int32) (x4 : Int32) (s0 : Int32) (s1 : Int32) (σ : aH) : Lq G d M_120 (53, [some (.ref 17), some (.ref 3), some (.ref 13), some (.int x3), some (.int x4)], [.int s0, .int s1, .ref 22], σ) = aCV (Rn G d 24 [.ref 22, .int s1, .int s0] σ) fun σ1 => Lq G d M_120 (56, [some (.ref 17), some (.ref 3), some (.ref 13), some (.int x3), some (.int x4)], [], σ1) :=
  (aUn_eq (tkd G.1 G.2) tmi (aRun (tkd G.1 G.2) tmi tmt d) M_120 [] 1 (53, [some (.ref 17), some (.ref 3), some (.ref 13), some (.int x3), some (.int x4)], [.int s0, .int s1, .ref 22], σ)).trans rfl
set_option maxRecDepth 20000 in
theorem q_120_3955 (G : Nat × (Nat → Int32)) (d : Nat) (x3 : Int32) (x4 : Int32) (σ : aH) : Lq G d M_120 (56, [some (.ref 17), some (.ref 3), some (.ref 13), some (.int x3), some (.int x4)], [], σ) = Lq G d M_120 (29, [some (.ref 17), some (.ref 3), some (.ref 13), some (.int x3), some (.int (x4 + (1 : Int32)))], [], σ) :=
  (aUn_eq (tkd G.1 G.2) tmi (aRun (tkd G.1 G.2) tmi tmt d) M_120 [] 2 (56, [some (.ref 17), some (.ref 3), some (.ref 13), some (.int x3), some (.int x4)], [], σ)).trans rfl
set_option maxRecDepth 20000 in
theorem q_120_3956 (G : Nat × (Nat → Int32)) (d : Nat) (x3 : Int32) (x4 : Int32) (σ : aH) : Lq G d M_120 (65, [some (.ref 17), some (.ref 3), some (.ref 13), some (.int x3), some (.int x4)], [], σ) = Lq G d M_120 (69, [some (.ref 17), some (.ref 3), some (.ref 13), some (.int x3), some (.int x4)], [.int (6 : Int32), .int x4], σ) :=
  (aUn_eq (tkd G.1 G.2) tmi (aRun (tkd G.1 G.2) tmi tmt d) M_120 [] 2 (65, [some (.ref 17), some (.ref 3), some (.ref 13), some (.int x3), some (.int x4)], [], σ)).trans rfl
set_option maxRecDepth 20000 in
theorem q_120_3957 (G : Nat × (Nat → Int32)) (d : Nat) (x3 : Int32) (x4 : Int32) (s0 : Int32) (s1 : Int32) (σ : aH) : Lq G d M_120 (69, [some (.ref 17), some (.ref 3), some (.ref 13), some (.int x3), some (.int x4)], [.int s0, .int s1], σ) = if s0 ≤ s1 then Lq G d M_120 (103, [some (.ref 17), some (.ref 3), some (.ref 13), some (.int x3), some (.int x4)], [], σ) else Lq G d M_120 (72, [some (.ref 17), some (.ref 3), some (.ref 13), some (.int x3), some (.int x4)], [], σ) :=
  (aUn_eq (tkd G.1 G.2) tmi (aRun (tkd G.1 G.2) tmi tmt d) M_120 [] 1 (69, [some (.ref 17), some (.ref 3), some (.ref 13), some (.int x3), some (.int x4)], [.int s0, .int s1], σ)).trans rfl
set_option maxRecDepth 20000 in
theorem q_120_3958 (G : Nat × (Nat → Int32)) (d : Nat) (x3 : Int32) (x4 : Int32) (σ : aH) : Lq G d M_120 (103, [some (.ref 17), some (.ref 3), some (.ref 13), some (.int x3), some (.int x4)], [], σ) = Lq G d M_120 (113, [some (.ref 17), some (.ref 3), some (.ref 13), some (.int x3), some (.int x4)], [.int (16 : Int32), .int x3, .ref 13, .int (11 : Int32), .ref 22], σ) :=
  (aUn_eq (tkd G.1 G.2) tmi (aRun (tkd G.1 G.2) tmi tmt d) M_120 [] 6 (103, [some (.ref 17), some (.ref 3), some (.ref 13), some (.int x3), some (.int x4)], [], σ)).trans rfl
set_option maxRecDepth 20000 in
theorem q_120_3959 (G : Nat × (Nat → Int32)) (d : Nat) (x3 : Int32) (x4 : Int32) (s0 : Int32) (s1 : Int32) (s3 : Int32) (σ : aH) : Lq G d M_120 (113, [some (.ref 17), some (.ref 3), some (.ref 13), some (.int x3), some (.int x4)], [.int s0, .int s1, .ref 13, .int s3, .ref 22], σ) = aCI (Rn G d 117 [.ref 13, .int s1, .int s0] σ) fun v2 σ1 => Lq G d M_120 (116, [some (.ref 17), some (.ref 3), some (.ref 13), some (.int x3), some (.int x4)], [.int v2, .int s3, .ref 22], σ1) :=
  (aUn_eq (tkd G.1 G.2) tmi (aRun (tkd G.1 G.2) tmi tmt d) M_120 [] 1 (113, [some (.ref 17), some (.ref 3), some (.ref 13), some (.int x3), some (.int x4)], [.int s0, .int s1, .ref 13, .int s3, .ref 22], σ)).trans rfl
set_option maxRecDepth 20000 in
theorem q_120_3960 (G : Nat × (Nat → Int32)) (d : Nat) (x3 : Int32) (x4 : Int32) (s0 : Int32) (s1 : Int32) (σ : aH) : Lq G d M_120 (116, [some (.ref 17), some (.ref 3), some (.ref 13), some (.int x3), some (.int x4)], [.int s0, .int s1, .ref 22], σ) = aCV (Rn G d 24 [.ref 22, .int s1, .int s0] σ) fun σ1 => Lq G d M_120 (119, [some (.ref 17), some (.ref 3), some (.ref 13), some (.int x3), some (.int x4)], [], σ1) :=
  (aUn_eq (tkd G.1 G.2) tmi (aRun (tkd G.1 G.2) tmi tmt d) M_120 [] 1 (116, [some (.ref 17), some (.ref 3), some (.ref 13), some (.int x3), some (.int x4)], [.int s0, .int s1, .ref 22], σ)).trans rfl
set_option maxRecDepth 20000 in
theorem q_120_3961 (G : Nat × (Nat → Int32)) (d : Nat) (x3 : Int32) (x4 : Int32) (σ : aH) : Lq G d M_120 (119, [some (.ref 17), some (.ref 3), some (.ref 13), some (.int x3), some (.int x4)], [], σ) = some (.inl none, σ) :=
  (aUn_eq (tkd G.1 G.2) tmi (aRun (tkd G.1 G.2) tmi tmt d) M_120 [] 1 (119, [some (.ref 17), some (.ref 3), some (.ref 13), some (.int x3), some (.int x4)], [], σ)).trans rfl
set_option maxRecDepth 20000 in
theorem q_120_3962 (G : Nat × (Nat → Int32)) (d : Nat) (x3 : Int32) (x4 : Int32) (σ : aH) : Lq G d M_120 (72, [some (.ref 17), some (.ref 3), some (.ref 13), some (.int x3), some (.int x4)], [], σ) = Lq G d M_120 (86, [some (.ref 17), some (.ref 3), some (.ref 13), some (.int x3), some (.int x4)], [.int (17 : Int32), .int x3, .ref 13, .int (1 : Int32), .ref 3, .int ((5 : Int32) + x4), .ref 22], σ) :=
  (aUn_eq (tkd G.1 G.2) tmi (aRun (tkd G.1 G.2) tmi tmt d) M_120 [] 10 (72, [some (.ref 17), some (.ref 3), some (.ref 13), some (.int x3), some (.int x4)], [], σ)).trans rfl
set_option maxRecDepth 20000 in
theorem q_120_3963 (G : Nat × (Nat → Int32)) (d : Nat) (x3 : Int32) (x4 : Int32) (s0 : Int32) (s1 : Int32) (s3 : Int32) (s5 : Int32) (σ : aH) : Lq G d M_120 (86, [some (.ref 17), some (.ref 3), some (.ref 13), some (.int x3), some (.int x4)], [.int s0, .int s1, .ref 13, .int s3, .ref 3, .int s5, .ref 22], σ) = aCI (Rn G d 117 [.ref 13, .int s1, .int s0] σ) fun v2 σ1 => Lq G d M_120 (89, [some (.ref 17), some (.ref 3), some (.ref 13), some (.int x3), some (.int x4)], [.int v2, .int s3, .ref 3, .int s5, .ref 22], σ1) :=
  (aUn_eq (tkd G.1 G.2) tmi (aRun (tkd G.1 G.2) tmi tmt d) M_120 [] 1 (86, [some (.ref 17), some (.ref 3), some (.ref 13), some (.int x3), some (.int x4)], [.int s0, .int s1, .ref 13, .int s3, .ref 3, .int s5, .ref 22], σ)).trans rfl
set_option maxRecDepth 20000 in
theorem q_120_3964 (G : Nat × (Nat → Int32)) (d : Nat) (x3 : Int32) (x4 : Int32) (s0 : Int32) (s1 : Int32) (s3 : Int32) (σ : aH) : Lq G d M_120 (89, [some (.ref 17), some (.ref 3), some (.ref 13), some (.int x3), some (.int x4)], [.int s0, .int s1, .ref 3, .int s3, .ref 22], σ) = Lq G d M_120 (91, [some (.ref 17), some (.ref 3), some (.ref 13), some (.int x3), some (.int x4)], [.int x4, .int s0, .int s1, .ref 3, .int s3, .ref 22], σ) :=
  (aUn_eq (tkd G.1 G.2) tmi (aRun (tkd G.1 G.2) tmi tmt d) M_120 [] 1 (89, [some (.ref 17), some (.ref 3), some (.ref 13), some (.int x3), some (.int x4)], [.int s0, .int s1, .ref 3, .int s3, .ref 22], σ)).trans rfl
set_option maxRecDepth 20000 in
theorem q_120_3965 (G : Nat × (Nat → Int32)) (d : Nat) (x3 : Int32) (x4 : Int32) (s0 : Int32) (s1 : Int32) (s2 : Int32) (s4 : Int32) (σ : aH) : Lq G d M_120 (91, [some (.ref 17), some (.ref 3), some (.ref 13), some (.int x3), some (.int x4)], [.int s0, .int s1, .int s2, .ref 3, .int s4, .ref 22], σ) = aCI (Rn G d 119 [.ref 3, .int s2, .int s1, .int s0] σ) fun v2 σ1 => Lq G d M_120 (94, [some (.ref 17), some (.ref 3), some (.ref 13), some (.int x3), some (.int x4)], [.int v2, .int s4, .ref 22], σ1) :=
  (aUn_eq (tkd G.1 G.2) tmi (aRun (tkd G.1 G.2) tmi tmt d) M_120 [] 1 (91, [some (.ref 17), some (.ref 3), some (.ref 13), some (.int x3), some (.int x4)], [.int s0, .int s1, .int s2, .ref 3, .int s4, .ref 22], σ)).trans rfl
set_option maxRecDepth 20000 in
theorem q_120_3966 (G : Nat × (Nat → Int32)) (d : Nat) (x3 : Int32) (x4 : Int32) (s0 : Int32) (s1 : Int32) (σ : aH) : Lq G d M_120 (94, [some (.ref 17), some (.ref 3), some (.ref 13), some (.int x3), some (.int x4)], [.int s0, .int s1, .ref 22], σ) = aCV (Rn G d 24 [.ref 22, .int s1, .int s0] σ) fun σ1 => Lq G d M_120 (97, [some (.ref 17), some (.ref 3), some (.ref 13), some (.int x3), some (.int x4)], [], σ1) :=
  (aUn_eq (tkd G.1 G.2) tmi (aRun (tkd G.1 G.2) tmi tmt d) M_120 [] 1 (94, [some (.ref 17), some (.ref 3), some (.ref 13), some (.int x3), some (.int x4)], [.int s0, .int s1, .ref 22], σ)).trans rfl
set_option maxRecDepth 20000 in
theorem q_120_3967 (G : Nat × (Nat → Int32)) (d : Nat) (x3 : Int32) (x4 : Int32) (σ : aH) : Lq G d M_120 (97, [some (.ref 17), some (.ref 3), some (.ref 13), some (.int x3), some (.int x4)], [], σ) = Lq G d M_120 (65, [some (.ref 17), some (.ref 3), some (.ref 13), some (.int x3), some (.int (x4 + (1 : Int32)))], [], σ) :=
  (aUn_eq (tkd G.1 G.2) tmi (aRun (tkd G.1 G.2) tmi tmt d) M_120 [] 2 (97, [some (.ref 17), some (.ref 3), some (.ref 13), some (.int x3), some (.int x4)], [], σ)).trans rfl
set_option maxRecDepth 20000 in
theorem q_123_3968 (G : Nat × (Nat → Int32)) (d : Nat)  (σ : aH) : Lq G d M_123 (0, [some (.ref 17), some (.ref 3), none, none], [], σ) = Lq G d M_123 (2, [some (.ref 17), some (.ref 3), none, none], [.int (4 : Int32), .ref 3], σ) :=
  (aUn_eq (tkd G.1 G.2) tmi (aRun (tkd G.1 G.2) tmi tmt d) M_123 [] 2 (0, [some (.ref 17), some (.ref 3), none, none], [], σ)).trans rfl
set_option maxRecDepth 20000 in
theorem q_123_3969 (G : Nat × (Nat → Int32)) (d : Nat) (s0 : Int32) (σ : aH) : Lq G d M_123 (2, [some (.ref 17), some (.ref 3), none, none], [.int s0, .ref 3], σ) = aCI (Rn G d 98 [.ref 3, .int s0] σ) fun v2 σ1 => Lq G d M_123 (5, [some (.ref 17), some (.ref 3), none, none], [.int v2], σ1) :=
  (aUn_eq (tkd G.1 G.2) tmi (aRun (tkd G.1 G.2) tmi tmt d) M_123 [] 1 (2, [some (.ref 17), some (.ref 3), none, none], [.int s0, .ref 3], σ)).trans rfl
set_option maxRecDepth 20000 in
theorem q_123_3970 (G : Nat × (Nat → Int32)) (d : Nat) (s0 : Int32) (σ : aH) : Lq G d M_123 (5, [some (.ref 17), some (.ref 3), none, none], [.int s0], σ) = Lq G d M_123 (8, [some (.ref 17), some (.ref 3), some (.int s0), some (.int (0 : Int32))], [], σ) :=
  (aUn_eq (tkd G.1 G.2) tmi (aRun (tkd G.1 G.2) tmi tmt d) M_123 [] 3 (5, [some (.ref 17), some (.ref 3), none, none], [.int s0], σ)).trans rfl
set_option maxRecDepth 20000 in
theorem q_123_3971 (G : Nat × (Nat → Int32)) (d : Nat) (x2 : Int32) (x3 : Int32) (σ : aH) : Lq G d M_123 (8, [some (.ref 17), some (.ref 3), some (.int x2), some (.int x3)], [], σ) = Lq G d M_123 (10, [some (.ref 17), some (.ref 3), some (.int x2), some (.int x3)], [.int x2, .int x3], σ) :=
  (aUn_eq (tkd G.1 G.2) tmi (aRun (tkd G.1 G.2) tmi tmt d) M_123 [] 2 (8, [some (.ref 17), some (.ref 3), some (.int x2), some (.int x3)], [], σ)).trans rfl
set_option maxRecDepth 20000 in
theorem q_123_3972 (G : Nat × (Nat → Int32)) (d : Nat) (x2 : Int32) (x3 : Int32) (s0 : Int32) (s1 : Int32) (σ : aH) : Lq G d M_123 (10, [some (.ref 17), some (.ref 3), some (.int x2), some (.int x3)], [.int s0, .int s1], σ) = if s0 ≤ s1 then Lq G d M_123 (30, [some (.ref 17), some (.ref 3), some (.int x2), some (.int x3)], [], σ) else Lq G d M_123 (13, [some (.ref 17), some (.ref 3), some (.int x2), some (.int x3)], [], σ) :=
  (aUn_eq (tkd G.1 G.2) tmi (aRun (tkd G.1 G.2) tmi tmt d) M_123 [] 1 (10, [some (.ref 17), some (.ref 3), some (.int x2), some (.int x3)], [.int s0, .int s1], σ)).trans rfl
set_option maxRecDepth 20000 in
theorem q_123_3973 (G : Nat × (Nat → Int32)) (d : Nat) (x2 : Int32) (x3 : Int32) (σ : aH) : Lq G d M_123 (30, [some (.ref 17), some (.ref 3), some (.int x2), some (.int x3)], [], σ) = Lq G d M_123 (31, [some (.ref 17), some (.ref 3), some (.int x2), some (.int x3)], [.int (-1 : Int32)], σ) :=
  (aUn_eq (tkd G.1 G.2) tmi (aRun (tkd G.1 G.2) tmi tmt d) M_123 [] 1 (30, [some (.ref 17), some (.ref 3), some (.int x2), some (.int x3)], [], σ)).trans rfl
set_option maxRecDepth 20000 in
theorem q_123_3974 (G : Nat × (Nat → Int32)) (d : Nat) (x2 : Int32) (x3 : Int32) (s0 : Int32) (σ : aH) : Lq G d M_123 (31, [some (.ref 17), some (.ref 3), some (.int x2), some (.int x3)], [.int s0], σ) = some (.inl (some (.int s0)), σ) :=
  (aUn_eq (tkd G.1 G.2) tmi (aRun (tkd G.1 G.2) tmi tmt d) M_123 [] 1 (31, [some (.ref 17), some (.ref 3), some (.int x2), some (.int x3)], [.int s0], σ)).trans rfl
set_option maxRecDepth 20000 in
theorem q_123_3975 (G : Nat × (Nat → Int32)) (d : Nat) (x2 : Int32) (x3 : Int32) (σ : aH) : Lq G d M_123 (13, [some (.ref 17), some (.ref 3), some (.int x2), some (.int x3)], [], σ) = Lq G d M_123 (16, [some (.ref 17), some (.ref 3), some (.int x2), some (.int x3)], [.int x3, .ref 3, .ref 17], σ) :=
  (aUn_eq (tkd G.1 G.2) tmi (aRun (tkd G.1 G.2) tmi tmt d) M_123 [] 3 (13, [some (.ref 17), some (.ref 3), some (.int x2), some (.int x3)], [], σ)).trans rfl
set_option maxRecDepth 20000 in
theorem q_123_3976 (G : Nat × (Nat → Int32)) (d : Nat) (x2 : Int32) (x3 : Int32) (s0 : Int32) (σ : aH) : Lq G d M_123 (16, [some (.ref 17), some (.ref 3), some (.int x2), some (.int x3)], [.int s0, .ref 3, .ref 17], σ) = aCI (Rn G d 124 [.ref 17, .ref 3, .int s0] σ) fun v2 σ1 => Lq G d M_123 (19, [some (.ref 17), some (.ref 3), some (.int x2), some (.int x3)], [.int v2], σ1) :=
  (aUn_eq (tkd G.1 G.2) tmi (aRun (tkd G.1 G.2) tmi tmt d) M_123 [] 1 (16, [some (.ref 17), some (.ref 3), some (.int x2), some (.int x3)], [.int s0, .ref 3, .ref 17], σ)).trans rfl
set_option maxRecDepth 20000 in
theorem q_123_3977 (G : Nat × (Nat → Int32)) (d : Nat) (x2 : Int32) (x3 : Int32) (s0 : Int32) (σ : aH) : Lq G d M_123 (19, [some (.ref 17), some (.ref 3), some (.int x2), some (.int x3)], [.int s0], σ) = if s0 = 0 then Lq G d M_123 (24, [some (.ref 17), some (.ref 3), some (.int x2), some (.int x3)], [], σ) else Lq G d M_123 (22, [some (.ref 17), some (.ref 3), some (.int x2), some (.int x3)], [], σ) :=
  (aUn_eq (tkd G.1 G.2) tmi (aRun (tkd G.1 G.2) tmi tmt d) M_123 [] 1 (19, [some (.ref 17), some (.ref 3), some (.int x2), some (.int x3)], [.int s0], σ)).trans rfl
set_option maxRecDepth 20000 in
theorem q_123_3978 (G : Nat × (Nat → Int32)) (d : Nat) (x2 : Int32) (x3 : Int32) (σ : aH) : Lq G d M_123 (24, [some (.ref 17), some (.ref 3), some (.int x2), some (.int x3)], [], σ) = Lq G d M_123 (8, [some (.ref 17), some (.ref 3), some (.int x2), some (.int (x3 + (1 : Int32)))], [], σ) :=
  (aUn_eq (tkd G.1 G.2) tmi (aRun (tkd G.1 G.2) tmi tmt d) M_123 [] 2 (24, [some (.ref 17), some (.ref 3), some (.int x2), some (.int x3)], [], σ)).trans rfl
set_option maxRecDepth 20000 in
theorem q_123_3979 (G : Nat × (Nat → Int32)) (d : Nat) (x2 : Int32) (x3 : Int32) (σ : aH) : Lq G d M_123 (22, [some (.ref 17), some (.ref 3), some (.int x2), some (.int x3)], [], σ) = Lq G d M_123 (23, [some (.ref 17), some (.ref 3), some (.int x2), some (.int x3)], [.int x3], σ) :=
  (aUn_eq (tkd G.1 G.2) tmi (aRun (tkd G.1 G.2) tmi tmt d) M_123 [] 1 (22, [some (.ref 17), some (.ref 3), some (.int x2), some (.int x3)], [], σ)).trans rfl
set_option maxRecDepth 20000 in
theorem q_123_3980 (G : Nat × (Nat → Int32)) (d : Nat) (x2 : Int32) (x3 : Int32) (s0 : Int32) (σ : aH) : Lq G d M_123 (23, [some (.ref 17), some (.ref 3), some (.int x2), some (.int x3)], [.int s0], σ) = some (.inl (some (.int s0)), σ) :=
  (aUn_eq (tkd G.1 G.2) tmi (aRun (tkd G.1 G.2) tmi tmt d) M_123 [] 1 (23, [some (.ref 17), some (.ref 3), some (.int x2), some (.int x3)], [.int s0], σ)).trans rfl
set_option maxRecDepth 20000 in
theorem q_162_3981 (G : Nat × (Nat → Int32)) (d : Nat) (x2 : Int32) (σ : aH) : Lq G d M_162 (0, [some (.ref 24), some (.ref 3), some (.int x2)], [], σ) = Lq G d M_162 (5, [some (.ref 24), some (.ref 3), some (.int x2)], [.int (0 : Int32), .int x2, .int (1 : Int32), .ref 3, .ref 24], σ) :=
  (aUn_eq (tkd G.1 G.2) tmi (aRun (tkd G.1 G.2) tmi tmt d) M_162 [] 5 (0, [some (.ref 24), some (.ref 3), some (.int x2)], [], σ)).trans rfl
set_option maxRecDepth 20000 in
theorem q_162_3982 (G : Nat × (Nat → Int32)) (d : Nat) (x2 : Int32) (s0 : Int32) (s1 : Int32) (s2 : Int32) (σ : aH) : Lq G d M_162 (5, [some (.ref 24), some (.ref 3), some (.int x2)], [.int s0, .int s1, .int s2, .ref 3, .ref 24], σ) = aCI (Rn G d 119 [.ref 3, .int s2, .int s1, .int s0] σ) fun v2 σ1 => Lq G d M_162 (8, [some (.ref 24), some (.ref 3), some (.int x2)], [.int v2, .ref 24], σ1) :=
  (aUn_eq (tkd G.1 G.2) tmi (aRun (tkd G.1 G.2) tmi tmt d) M_162 [] 1 (5, [some (.ref 24), some (.ref 3), some (.int x2)], [.int s0, .int s1, .int s2, .ref 3, .ref 24], σ)).trans rfl
set_option maxRecDepth 20000 in
theorem q_162_3983 (G : Nat × (Nat → Int32)) (d : Nat) (x2 : Int32) (s0 : Int32) (σ : aH) : Lq G d M_162 (8, [some (.ref 24), some (.ref 3), some (.int x2)], [.int s0, .ref 24], σ) = Lq G d M_162 (16, [some (.ref 24), some (.ref 3), some (.int x2)], [.int (1 : Int32), .int x2, .int (1 : Int32), .ref 3, .ref 24], (aSI σ 24 6 s0)) :=
  (aUn_eq (tkd G.1 G.2) tmi (aRun (tkd G.1 G.2) tmi tmt d) M_162 [] 6 (8, [some (.ref 24), some (.ref 3), some (.int x2)], [.int s0, .ref 24], σ)).trans rfl
set_option maxRecDepth 20000 in
theorem q_162_3984 (G : Nat × (Nat → Int32)) (d : Nat) (x2 : Int32) (s0 : Int32) (s1 : Int32) (s2 : Int32) (σ : aH) : Lq G d M_162 (16, [some (.ref 24), some (.ref 3), some (.int x2)], [.int s0, .int s1, .int s2, .ref 3, .ref 24], σ) = aCI (Rn G d 119 [.ref 3, .int s2, .int s1, .int s0] σ) fun v2 σ1 => Lq G d M_162 (19, [some (.ref 24), some (.ref 3), some (.int x2)], [.int v2, .ref 24], σ1) :=
  (aUn_eq (tkd G.1 G.2) tmi (aRun (tkd G.1 G.2) tmi tmt d) M_162 [] 1 (16, [some (.ref 24), some (.ref 3), some (.int x2)], [.int s0, .int s1, .int s2, .ref 3, .ref 24], σ)).trans rfl
set_option maxRecDepth 20000 in
theorem q_162_3985 (G : Nat × (Nat → Int32)) (d : Nat) (x2 : Int32) (s0 : Int32) (σ : aH) : Lq G d M_162 (19, [some (.ref 24), some (.ref 3), some (.int x2)], [.int s0, .ref 24], σ) = Lq G d M_162 (27, [some (.ref 24), some (.ref 3), some (.int x2)], [.int (2 : Int32), .int x2, .int (1 : Int32), .ref 3, .ref 24], (aSI σ 24 7 s0)) :=
  (aUn_eq (tkd G.1 G.2) tmi (aRun (tkd G.1 G.2) tmi tmt d) M_162 [] 6 (19, [some (.ref 24), some (.ref 3), some (.int x2)], [.int s0, .ref 24], σ)).trans rfl
set_option maxRecDepth 20000 in
theorem q_162_3986 (G : Nat × (Nat → Int32)) (d : Nat) (x2 : Int32) (s0 : Int32) (s1 : Int32) (s2 : Int32) (σ : aH) : Lq G d M_162 (27, [some (.ref 24), some (.ref 3), some (.int x2)], [.int s0, .int s1, .int s2, .ref 3, .ref 24], σ) = aCI (Rn G d 119 [.ref 3, .int s2, .int s1, .int s0] σ) fun v2 σ1 => Lq G d M_162 (30, [some (.ref 24), some (.ref 3), some (.int x2)], [.int v2, .ref 24], σ1) :=
  (aUn_eq (tkd G.1 G.2) tmi (aRun (tkd G.1 G.2) tmi tmt d) M_162 [] 1 (27, [some (.ref 24), some (.ref 3), some (.int x2)], [.int s0, .int s1, .int s2, .ref 3, .ref 24], σ)).trans rfl
set_option maxRecDepth 20000 in
theorem q_162_3987 (G : Nat × (Nat → Int32)) (d : Nat) (x2 : Int32) (s0 : Int32) (σ : aH) : Lq G d M_162 (30, [some (.ref 24), some (.ref 3), some (.int x2)], [.int s0, .ref 24], σ) = Lq G d M_162 (38, [some (.ref 24), some (.ref 3), some (.int x2)], [.int (3 : Int32), .int x2, .int (1 : Int32), .ref 3, .ref 24], (aSI σ 24 8 s0)) :=
  (aUn_eq (tkd G.1 G.2) tmi (aRun (tkd G.1 G.2) tmi tmt d) M_162 [] 6 (30, [some (.ref 24), some (.ref 3), some (.int x2)], [.int s0, .ref 24], σ)).trans rfl
set_option maxRecDepth 20000 in
theorem q_162_3988 (G : Nat × (Nat → Int32)) (d : Nat) (x2 : Int32) (s0 : Int32) (s1 : Int32) (s2 : Int32) (σ : aH) : Lq G d M_162 (38, [some (.ref 24), some (.ref 3), some (.int x2)], [.int s0, .int s1, .int s2, .ref 3, .ref 24], σ) = aCI (Rn G d 119 [.ref 3, .int s2, .int s1, .int s0] σ) fun v2 σ1 => Lq G d M_162 (41, [some (.ref 24), some (.ref 3), some (.int x2)], [.int v2, .ref 24], σ1) :=
  (aUn_eq (tkd G.1 G.2) tmi (aRun (tkd G.1 G.2) tmi tmt d) M_162 [] 1 (38, [some (.ref 24), some (.ref 3), some (.int x2)], [.int s0, .int s1, .int s2, .ref 3, .ref 24], σ)).trans rfl
set_option maxRecDepth 20000 in
theorem q_162_3989 (G : Nat × (Nat → Int32)) (d : Nat) (x2 : Int32) (s0 : Int32) (σ : aH) : Lq G d M_162 (41, [some (.ref 24), some (.ref 3), some (.int x2)], [.int s0, .ref 24], σ) = Lq G d M_162 (49, [some (.ref 24), some (.ref 3), some (.int x2)], [.int (4 : Int32), .int x2, .int (1 : Int32), .ref 3, .ref 24], (aSI σ 24 9 s0)) :=
  (aUn_eq (tkd G.1 G.2) tmi (aRun (tkd G.1 G.2) tmi tmt d) M_162 [] 6 (41, [some (.ref 24), some (.ref 3), some (.int x2)], [.int s0, .ref 24], σ)).trans rfl
set_option maxRecDepth 20000 in
theorem q_162_3990 (G : Nat × (Nat → Int32)) (d : Nat) (x2 : Int32) (s0 : Int32) (s1 : Int32) (s2 : Int32) (σ : aH) : Lq G d M_162 (49, [some (.ref 24), some (.ref 3), some (.int x2)], [.int s0, .int s1, .int s2, .ref 3, .ref 24], σ) = aCI (Rn G d 119 [.ref 3, .int s2, .int s1, .int s0] σ) fun v2 σ1 => Lq G d M_162 (52, [some (.ref 24), some (.ref 3), some (.int x2)], [.int v2, .ref 24], σ1) :=
  (aUn_eq (tkd G.1 G.2) tmi (aRun (tkd G.1 G.2) tmi tmt d) M_162 [] 1 (49, [some (.ref 24), some (.ref 3), some (.int x2)], [.int s0, .int s1, .int s2, .ref 3, .ref 24], σ)).trans rfl
set_option maxRecDepth 20000 in
theorem q_162_3991 (G : Nat × (Nat → Int32)) (d : Nat) (x2 : Int32) (s0 : Int32) (σ : aH) : Lq G d M_162 (52, [some (.ref 24), some (.ref 3), some (.int x2)], [.int s0, .ref 24], σ) = Lq G d M_162 (60, [some (.ref 24), some (.ref 3), some (.int x2)], [.int (5 : Int32), .int x2, .int (1 : Int32), .ref 3, .ref 24], (aSI σ 24 10 s0)) :=
  (aUn_eq (tkd G.1 G.2) tmi (aRun (tkd G.1 G.2) tmi tmt d) M_162 [] 6 (52, [some (.ref 24), some (.ref 3), some (.int x2)], [.int s0, .ref 24], σ)).trans rfl
set_option maxRecDepth 20000 in
theorem q_162_3992 (G : Nat × (Nat → Int32)) (d : Nat) (x2 : Int32) (s0 : Int32) (s1 : Int32) (s2 : Int32) (σ : aH) : Lq G d M_162 (60, [some (.ref 24), some (.ref 3), some (.int x2)], [.int s0, .int s1, .int s2, .ref 3, .ref 24], σ) = aCI (Rn G d 119 [.ref 3, .int s2, .int s1, .int s0] σ) fun v2 σ1 => Lq G d M_162 (63, [some (.ref 24), some (.ref 3), some (.int x2)], [.int v2, .ref 24], σ1) :=
  (aUn_eq (tkd G.1 G.2) tmi (aRun (tkd G.1 G.2) tmi tmt d) M_162 [] 1 (60, [some (.ref 24), some (.ref 3), some (.int x2)], [.int s0, .int s1, .int s2, .ref 3, .ref 24], σ)).trans rfl
set_option maxRecDepth 20000 in
theorem q_162_3993 (G : Nat × (Nat → Int32)) (d : Nat) (x2 : Int32) (s0 : Int32) (σ : aH) : Lq G d M_162 (63, [some (.ref 24), some (.ref 3), some (.int x2)], [.int s0, .ref 24], σ) = Lq G d M_162 (66, [some (.ref 24), some (.ref 3), some (.int x2)], [], (aSI σ 24 11 s0)) :=
  (aUn_eq (tkd G.1 G.2) tmi (aRun (tkd G.1 G.2) tmi tmt d) M_162 [] 1 (63, [some (.ref 24), some (.ref 3), some (.int x2)], [.int s0, .ref 24], σ)).trans rfl
set_option maxRecDepth 20000 in
theorem q_162_3994 (G : Nat × (Nat → Int32)) (d : Nat) (x2 : Int32) (σ : aH) : Lq G d M_162 (66, [some (.ref 24), some (.ref 3), some (.int x2)], [], σ) = some (.inl none, σ) :=
  (aUn_eq (tkd G.1 G.2) tmi (aRun (tkd G.1 G.2) tmi tmt d) M_162 [] 1 (66, [some (.ref 24), some (.ref 3), some (.int x2)], [], σ)).trans rfl
set_option maxRecDepth 20000 in
theorem q_164_3995 (G : Nat × (Nat → Int32)) (d : Nat)  (σ : aH) : Lq G d M_164 (0, [some (.ref 24), none], [], σ) = Lq G d M_164 (22, [some (.ref 24), none], [.int ((σ.1 24 0) + (σ.1 24 1)), .int (σ.1 24 6), .int ((1000 : Int32) * (σ.1 24 3)), .ref 24], σ) :=
  (aUn_eq (tkd G.1 G.2) tmi (aRun (tkd G.1 G.2) tmi tmt d) M_164 [] 12 (0, [some (.ref 24), none], [], σ)).trans rfl
set_option maxRecDepth 20000 in
theorem q_164_3996 (G : Nat × (Nat → Int32)) (d : Nat) (s0 : Int32) (s1 : Int32) (s2 : Int32) (σ : aH) : Lq G d M_164 (22, [some (.ref 24), none], [.int s0, .int s1, .int s2, .ref 24], σ) = aCI (Rn G d 152 [.int s1, .int s0] σ) fun v2 σ1 => Lq G d M_164 (25, [some (.ref 24), none], [.int v2, .int s2, .ref 24], σ1) :=
  (aUn_eq (tkd G.1 G.2) tmi (aRun (tkd G.1 G.2) tmi tmt d) M_164 [] 1 (22, [some (.ref 24), none], [.int s0, .int s1, .int s2, .ref 24], σ)).trans rfl
set_option maxRecDepth 20000 in
theorem q_164_3997 (G : Nat × (Nat → Int32)) (d : Nat) (s0 : Int32) (s1 : Int32) (σ : aH) : Lq G d M_164 (25, [some (.ref 24), none], [.int s0, .int s1, .ref 24], σ) = aCI (Rn G d 165 [.ref 24, .int s1, .int s0] σ) fun v2 σ1 => Lq G d M_164 (28, [some (.ref 24), none], [.int v2], σ1) :=
  (aUn_eq (tkd G.1 G.2) tmi (aRun (tkd G.1 G.2) tmi tmt d) M_164 [] 1 (25, [some (.ref 24), none], [.int s0, .int s1, .ref 24], σ)).trans rfl
set_option maxRecDepth 20000 in
theorem q_164_3998 (G : Nat × (Nat → Int32)) (d : Nat) (s0 : Int32) (σ : aH) : Lq G d M_164 (28, [some (.ref 24), none], [.int s0], σ) = Lq G d M_164 (34, [some (.ref 24), some (.int s0)], [.int (1 : Int32), .int (σ.1 24 8)], σ) :=
  (aUn_eq (tkd G.1 G.2) tmi (aRun (tkd G.1 G.2) tmi tmt d) M_164 [] 4 (28, [some (.ref 24), none], [.int s0], σ)).trans rfl
set_option maxRecDepth 20000 in
theorem q_164_3999 (G : Nat × (Nat → Int32)) (d : Nat) (x1 : Int32) (s0 : Int32) (s1 : Int32) (σ : aH) : Lq G d M_164 (34, [some (.ref 24), some (.int x1)], [.int s0, .int s1], σ) = if s1 = s0 then Lq G d M_164 (37, [some (.ref 24), some (.int x1)], [], σ) else Lq G d M_164 (54, [some (.ref 24), some (.int x1)], [], σ) :=
  (aUn_eq (tkd G.1 G.2) tmi (aRun (tkd G.1 G.2) tmi tmt d) M_164 [] 1 (34, [some (.ref 24), some (.int x1)], [.int s0, .int s1], σ)).trans rfl
set_option maxRecDepth 20000 in
theorem q_164_4000 (G : Nat × (Nat → Int32)) (d : Nat) (x1 : Int32) (σ : aH) : Lq G d M_164 (37, [some (.ref 24), some (.int x1)], [], σ) = Lq G d M_164 (47, [some (.ref 24), some (.int x1)], [.int ((1000 : Int32) * (σ.1 24 14)), .int x1, .ref 24], σ) :=
  (aUn_eq (tkd G.1 G.2) tmi (aRun (tkd G.1 G.2) tmi tmt d) M_164 [] 6 (37, [some (.ref 24), some (.int x1)], [], σ)).trans rfl
set_option maxRecDepth 20000 in
theorem q_164_4001 (G : Nat × (Nat → Int32)) (d : Nat) (x1 : Int32) (s0 : Int32) (s1 : Int32) (σ : aH) : Lq G d M_164 (47, [some (.ref 24), some (.int x1)], [.int s0, .int s1, .ref 24], σ) = aCI (Rn G d 165 [.ref 24, .int s1, .int s0] σ) fun v2 σ1 => Lq G d M_164 (50, [some (.ref 24), some (.int x1)], [.int v2], σ1) :=
  (aUn_eq (tkd G.1 G.2) tmi (aRun (tkd G.1 G.2) tmi tmt d) M_164 [] 1 (47, [some (.ref 24), some (.int x1)], [.int s0, .int s1, .ref 24], σ)).trans rfl
set_option maxRecDepth 20000 in
theorem q_164_4002 (G : Nat × (Nat → Int32)) (d : Nat) (x1 : Int32) (s0 : Int32) (σ : aH) : Lq G d M_164 (50, [some (.ref 24), some (.int x1)], [.int s0], σ) = Lq G d M_164 (87, [some (.ref 24), some (.int s0)], [.int (1 : Int32), .int (σ.1 24 9)], σ) :=
  (aUn_eq (tkd G.1 G.2) tmi (aRun (tkd G.1 G.2) tmi tmt d) M_164 [] 5 (50, [some (.ref 24), some (.int x1)], [.int s0], σ)).trans rfl
set_option maxRecDepth 20000 in
theorem q_164_4003 (G : Nat × (Nat → Int32)) (d : Nat) (x1 : Int32) (s0 : Int32) (s1 : Int32) (σ : aH) : Lq G d M_164 (87, [some (.ref 24), some (.int x1)], [.int s0, .int s1], σ) = if s1 = s0 then Lq G d M_164 (90, [some (.ref 24), some (.int x1)], [], σ) else Lq G d M_164 (107, [some (.ref 24), some (.int x1)], [], σ) :=
  (aUn_eq (tkd G.1 G.2) tmi (aRun (tkd G.1 G.2) tmi tmt d) M_164 [] 1 (87, [some (.ref 24), some (.int x1)], [.int s0, .int s1], σ)).trans rfl
set_option maxRecDepth 20000 in
theorem q_164_4004 (G : Nat × (Nat → Int32)) (d : Nat) (x1 : Int32) (σ : aH) : Lq G d M_164 (90, [some (.ref 24), some (.int x1)], [], σ) = Lq G d M_164 (100, [some (.ref 24), some (.int x1)], [.int ((1000 : Int32) * (σ.1 24 15)), .int x1, .ref 24], σ) :=
  (aUn_eq (tkd G.1 G.2) tmi (aRun (tkd G.1 G.2) tmi tmt d) M_164 [] 6 (90, [some (.ref 24), some (.int x1)], [], σ)).trans rfl
set_option maxRecDepth 20000 in
theorem q_164_4005 (G : Nat × (Nat → Int32)) (d : Nat) (x1 : Int32) (s0 : Int32) (s1 : Int32) (σ : aH) : Lq G d M_164 (100, [some (.ref 24), some (.int x1)], [.int s0, .int s1, .ref 24], σ) = aCI (Rn G d 165 [.ref 24, .int s1, .int s0] σ) fun v2 σ1 => Lq G d M_164 (103, [some (.ref 24), some (.int x1)], [.int v2], σ1) :=
  (aUn_eq (tkd G.1 G.2) tmi (aRun (tkd G.1 G.2) tmi tmt d) M_164 [] 1 (100, [some (.ref 24), some (.int x1)], [.int s0, .int s1, .ref 24], σ)).trans rfl
set_option maxRecDepth 20000 in
theorem q_164_4006 (G : Nat × (Nat → Int32)) (d : Nat) (x1 : Int32) (s0 : Int32) (σ : aH) : Lq G d M_164 (103, [some (.ref 24), some (.int x1)], [.int s0], σ) = Lq G d M_164 (132, [some (.ref 24), some (.int s0)], [.int s0], σ) :=
  (aUn_eq (tkd G.1 G.2) tmi (aRun (tkd G.1 G.2) tmi tmt d) M_164 [] 3 (103, [some (.ref 24), some (.int x1)], [.int s0], σ)).trans rfl
set_option maxRecDepth 20000 in
theorem q_164_4007 (G : Nat × (Nat → Int32)) (d : Nat) (x1 : Int32) (s0 : Int32) (σ : aH) : Lq G d M_164 (132, [some (.ref 24), some (.int x1)], [.int s0], σ) = some (.inl (some (.int s0)), σ) :=
  (aUn_eq (tkd G.1 G.2) tmi (aRun (tkd G.1 G.2) tmi tmt d) M_164 [] 1 (132, [some (.ref 24), some (.int x1)], [.int s0], σ)).trans rfl
set_option maxRecDepth 20000 in
theorem q_164_4008 (G : Nat × (Nat → Int32)) (d : Nat) (x1 : Int32) (σ : aH) : Lq G d M_164 (107, [some (.ref 24), some (.int x1)], [], σ) = Lq G d M_164 (112, [some (.ref 24), some (.int x1)], [.int (2 : Int32), .int (σ.1 24 9)], σ) :=
  (aUn_eq (tkd G.1 G.2) tmi (aRun (tkd G.1 G.2) tmi tmt d) M_164 [] 3 (107, [some (.ref 24), some (.int x1)], [], σ)).trans rfl
set_option maxRecDepth 20000 in
theorem q_164_4009 (G : Nat × (Nat → Int32)) (d : Nat) (x1 : Int32) (s0 : Int32) (s1 : Int32) (σ : aH) : Lq G d M_164 (112, [some (.ref 24), some (.int x1)], [.int s0, .int s1], σ) = if s1 = s0 then Lq G d M_164 (115, [some (.ref 24), some (.int x1)], [], σ) else Lq G d M_164 (131, [some (.ref 24), some (.int x1)], [], σ) :=
  (aUn_eq (tkd G.1 G.2) tmi (aRun (tkd G.1 G.2) tmi tmt d) M_164 [] 1 (112, [some (.ref 24), some (.int x1)], [.int s0, .int s1], σ)).trans rfl
set_option maxRecDepth 20000 in
theorem q_164_4010 (G : Nat × (Nat → Int32)) (d : Nat) (x1 : Int32) (σ : aH) : Lq G d M_164 (115, [some (.ref 24), some (.int x1)], [], σ) = Lq G d M_164 (127, [some (.ref 24), some (.int x1)], [.int ((1000 : Int32) * ((σ.1 24 15) / (2 : Int32))), .int x1, .ref 24], σ) :=
  (aUn_eq (tkd G.1 G.2) tmi (aRun (tkd G.1 G.2) tmi tmt d) M_164 [] 8 (115, [some (.ref 24), some (.int x1)], [], σ)).trans rfl
set_option maxRecDepth 20000 in
theorem q_164_4011 (G : Nat × (Nat → Int32)) (d : Nat) (x1 : Int32) (s0 : Int32) (s1 : Int32) (σ : aH) : Lq G d M_164 (127, [some (.ref 24), some (.int x1)], [.int s0, .int s1, .ref 24], σ) = aCI (Rn G d 165 [.ref 24, .int s1, .int s0] σ) fun v2 σ1 => Lq G d M_164 (130, [some (.ref 24), some (.int x1)], [.int v2], σ1) :=
  (aUn_eq (tkd G.1 G.2) tmi (aRun (tkd G.1 G.2) tmi tmt d) M_164 [] 1 (127, [some (.ref 24), some (.int x1)], [.int s0, .int s1, .ref 24], σ)).trans rfl
set_option maxRecDepth 20000 in
theorem q_164_4012 (G : Nat × (Nat → Int32)) (d : Nat) (x1 : Int32) (s0 : Int32) (σ : aH) : Lq G d M_164 (130, [some (.ref 24), some (.int x1)], [.int s0], σ) = Lq G d M_164 (132, [some (.ref 24), some (.int s0)], [.int s0], σ) :=
  (aUn_eq (tkd G.1 G.2) tmi (aRun (tkd G.1 G.2) tmi tmt d) M_164 [] 2 (130, [some (.ref 24), some (.int x1)], [.int s0], σ)).trans rfl
set_option maxRecDepth 20000 in
theorem q_164_4013 (G : Nat × (Nat → Int32)) (d : Nat) (x1 : Int32) (σ : aH) : Lq G d M_164 (131, [some (.ref 24), some (.int x1)], [], σ) = Lq G d M_164 (132, [some (.ref 24), some (.int x1)], [.int x1], σ) :=
  (aUn_eq (tkd G.1 G.2) tmi (aRun (tkd G.1 G.2) tmi tmt d) M_164 [] 1 (131, [some (.ref 24), some (.int x1)], [], σ)).trans rfl
set_option maxRecDepth 20000 in
theorem q_164_4014 (G : Nat × (Nat → Int32)) (d : Nat) (x1 : Int32) (σ : aH) : Lq G d M_164 (54, [some (.ref 24), some (.int x1)], [], σ) = Lq G d M_164 (59, [some (.ref 24), some (.int x1)], [.int (2 : Int32), .int (σ.1 24 8)], σ) :=
  (aUn_eq (tkd G.1 G.2) tmi (aRun (tkd G.1 G.2) tmi tmt d) M_164 [] 3 (54, [some (.ref 24), some (.int x1)], [], σ)).trans rfl
set_option maxRecDepth 20000 in
theorem q_164_4015 (G : Nat × (Nat → Int32)) (d : Nat) (x1 : Int32) (s0 : Int32) (s1 : Int32) (σ : aH) : Lq G d M_164 (59, [some (.ref 24), some (.int x1)], [.int s0, .int s1], σ) = if s1 = s0 then Lq G d M_164 (62, [some (.ref 24), some (.int x1)], [], σ) else Lq G d M_164 (82, [some (.ref 24), some (.int x1)], [], σ) :=
  (aUn_eq (tkd G.1 G.2) tmi (aRun (tkd G.1 G.2) tmi tmt d) M_164 [] 1 (59, [some (.ref 24), some (.int x1)], [.int s0, .int s1], σ)).trans rfl
set_option maxRecDepth 20000 in
theorem q_164_4016 (G : Nat × (Nat → Int32)) (d : Nat) (x1 : Int32) (σ : aH) : Lq G d M_164 (62, [some (.ref 24), some (.int x1)], [], σ) = Lq G d M_164 (78, [some (.ref 24), some (.int x1)], [.int ((1000 : Int32) * (((1000 : Int32) + (σ.1 24 14)) / (2 : Int32))), .int x1, .ref 24], σ) :=
  (aUn_eq (tkd G.1 G.2) tmi (aRun (tkd G.1 G.2) tmi tmt d) M_164 [] 10 (62, [some (.ref 24), some (.int x1)], [], σ)).trans rfl
set_option maxRecDepth 20000 in
theorem q_164_4017 (G : Nat × (Nat → Int32)) (d : Nat) (x1 : Int32) (s0 : Int32) (s1 : Int32) (σ : aH) : Lq G d M_164 (78, [some (.ref 24), some (.int x1)], [.int s0, .int s1, .ref 24], σ) = aCI (Rn G d 165 [.ref 24, .int s1, .int s0] σ) fun v2 σ1 => Lq G d M_164 (81, [some (.ref 24), some (.int x1)], [.int v2], σ1) :=
  (aUn_eq (tkd G.1 G.2) tmi (aRun (tkd G.1 G.2) tmi tmt d) M_164 [] 1 (78, [some (.ref 24), some (.int x1)], [.int s0, .int s1, .ref 24], σ)).trans rfl
set_option maxRecDepth 20000 in
theorem q_164_4018 (G : Nat × (Nat → Int32)) (d : Nat) (x1 : Int32) (s0 : Int32) (σ : aH) : Lq G d M_164 (81, [some (.ref 24), some (.int x1)], [.int s0], σ) = Lq G d M_164 (87, [some (.ref 24), some (.int s0)], [.int (1 : Int32), .int (σ.1 24 9)], σ) :=
  (aUn_eq (tkd G.1 G.2) tmi (aRun (tkd G.1 G.2) tmi tmt d) M_164 [] 4 (81, [some (.ref 24), some (.int x1)], [.int s0], σ)).trans rfl
set_option maxRecDepth 20000 in
theorem q_164_4019 (G : Nat × (Nat → Int32)) (d : Nat) (x1 : Int32) (σ : aH) : Lq G d M_164 (82, [some (.ref 24), some (.int x1)], [], σ) = Lq G d M_164 (87, [some (.ref 24), some (.int x1)], [.int (1 : Int32), .int (σ.1 24 9)], σ) :=
  (aUn_eq (tkd G.1 G.2) tmi (aRun (tkd G.1 G.2) tmi tmt d) M_164 [] 3 (82, [some (.ref 24), some (.int x1)], [], σ)).trans rfl
set_option maxRecDepth 20000 in
theorem q_165_4020 (G : Nat × (Nat → Int32)) (d : Nat) (x1 : Int32) (x2 : Int32) (σ : aH) : Lq G d M_165 (0, [some (.ref 24), some (.int x1), some (.int x2), none, none, none, none], [], σ) = Lq G d M_165 (25, [some (.ref 24), some (.int x1), some (.int x2), some (.long ((x1).toInt64 * (x2).toInt64)), none, some (.long (((x1).toInt64 * (x2).toInt64) + (((((1000000 : Int32) - x1)).toInt64 * (1000 : Int64)) * ((σ.1 24 13)).toInt64))), none], [], σ) :=
  (aUn_eq (tkd G.1 G.2) tmi (aRun (tkd G.1 G.2) tmi tmt d) M_165 [] 19 (0, [some (.ref 24), some (.int x1), some (.int x2), none, none, none, none], [], σ)).trans rfl
set_option maxRecDepth 20000 in
theorem q_165_4021 (G : Nat × (Nat → Int32)) (d : Nat) (x1 : Int32) (x2 : Int32) (x3 : Int64) (x5 : Int64) (σ : aH) : Lq G d M_165 (25, [some (.ref 24), some (.int x1), some (.int x2), some (.long x3), none, some (.long x5), none], [], σ) = Lq G d M_165 (29, [some (.ref 24), some (.int x1), some (.int x2), some (.long x3), none, some (.long x5), none], [.int (lg_cmp x5 (0 : Int64))], σ) :=
  (aUn_eq (tkd G.1 G.2) tmi (aRun (tkd G.1 G.2) tmi tmt d) M_165 [] 3 (25, [some (.ref 24), some (.int x1), some (.int x2), some (.long x3), none, some (.long x5), none], [], σ)).trans rfl
set_option maxRecDepth 20000 in
theorem q_165_4022 (G : Nat × (Nat → Int32)) (d : Nat) (x1 : Int32) (x2 : Int32) (x3 : Int64) (x5 : Int64) (s0 : Int32) (σ : aH) : Lq G d M_165 (29, [some (.ref 24), some (.int x1), some (.int x2), some (.long x3), none, some (.long x5), none], [.int s0], σ) = if s0 = 0 then Lq G d M_165 (32, [some (.ref 24), some (.int x1), some (.int x2), some (.long x3), none, some (.long x5), none], [], σ) else Lq G d M_165 (36, [some (.ref 24), some (.int x1), some (.int x2), some (.long x3), none, some (.long x5), none], [], σ) :=
  (aUn_eq (tkd G.1 G.2) tmi (aRun (tkd G.1 G.2) tmi tmt d) M_165 [] 1 (29, [some (.ref 24), some (.int x1), some (.int x2), some (.long x3), none, some (.long x5), none], [.int s0], σ)).trans rfl
set_option maxRecDepth 20000 in
theorem q_165_4023 (G : Nat × (Nat → Int32)) (d : Nat) (x1 : Int32) (x2 : Int32) (x3 : Int64) (x5 : Int64) (σ : aH) : Lq G d M_165 (32, [some (.ref 24), some (.int x1), some (.int x2), some (.long x3), none, some (.long x5), none], [], σ) = Lq G d M_165 (45, [some (.ref 24), some (.int x1), some (.int x2), some (.long x3), none, some (.long x5), none], [.int (0 : Int32)], σ) :=
  (aUn_eq (tkd G.1 G.2) tmi (aRun (tkd G.1 G.2) tmi tmt d) M_165 [] 2 (32, [some (.ref 24), some (.int x1), some (.int x2), some (.long x3), none, some (.long x5), none], [], σ)).trans rfl
set_option maxRecDepth 20000 in
theorem q_165_4024 (G : Nat × (Nat → Int32)) (d : Nat) (x1 : Int32) (x2 : Int32) (x3 : Int64) (x5 : Int64) (s0 : Int32) (σ : aH) : Lq G d M_165 (45, [some (.ref 24), some (.int x1), some (.int x2), some (.long x3), none, some (.long x5), none], [.int s0], σ) = some (.inl (some (.int s0)), σ) :=
  (aUn_eq (tkd G.1 G.2) tmi (aRun (tkd G.1 G.2) tmi tmt d) M_165 [] 1 (45, [some (.ref 24), some (.int x1), some (.int x2), some (.long x3), none, some (.long x5), none], [.int s0], σ)).trans rfl
set_option maxRecDepth 20000 in
theorem q_165_4025 (G : Nat × (Nat → Int32)) (d : Nat) (x1 : Int32) (x2 : Int32) (x3 : Int64) (x5 : Int64) (σ : aH) : Lq G d M_165 (36, [some (.ref 24), some (.int x1), some (.int x2), some (.long x3), none, some (.long x5), none], [], σ) = Lq G d M_165 (43, [some (.ref 24), some (.int x1), some (.int x2), some (.long x3), none, some (.long x5), none], [.long x5, .long (x3 * (1000000 : Int64))], σ) :=
  (aUn_eq (tkd G.1 G.2) tmi (aRun (tkd G.1 G.2) tmi tmt d) M_165 [] 4 (36, [some (.ref 24), some (.int x1), some (.int x2), some (.long x3), none, some (.long x5), none], [], σ)).trans rfl
set_option maxRecDepth 20000 in
theorem q_165_4026 (G : Nat × (Nat → Int32)) (d : Nat) (x1 : Int32) (x2 : Int32) (x3 : Int64) (x5 : Int64) (s0 : Int64) (s1 : Int64) (σ : aH) : Lq G d M_165 (43, [some (.ref 24), some (.int x1), some (.int x2), some (.long x3), none, some (.long x5), none], [.long s0, .long s1], σ) = aNzL (s0) (Lq G d M_165 (44, [some (.ref 24), some (.int x1), some (.int x2), some (.long x3), none, some (.long x5), none], [.long (s1 / s0)], σ)) :=
  (aUn_eq (tkd G.1 G.2) tmi (aRun (tkd G.1 G.2) tmi tmt d) M_165 [] 1 (43, [some (.ref 24), some (.int x1), some (.int x2), some (.long x3), none, some (.long x5), none], [.long s0, .long s1], σ)).trans rfl
set_option maxRecDepth 20000 in
theorem q_165_4027 (G : Nat × (Nat → Int32)) (d : Nat) (x1 : Int32) (x2 : Int32) (x3 : Int64) (x5 : Int64) (s0 : Int64) (σ : aH) : Lq G d M_165 (44, [some (.ref 24), some (.int x1), some (.int x2), some (.long x3), none, some (.long x5), none], [.long s0], σ) = Lq G d M_165 (45, [some (.ref 24), some (.int x1), some (.int x2), some (.long x3), none, some (.long x5), none], [.int (s0).toInt32], σ) :=
  (aUn_eq (tkd G.1 G.2) tmi (aRun (tkd G.1 G.2) tmi tmt d) M_165 [] 1 (44, [some (.ref 24), some (.int x1), some (.int x2), some (.long x3), none, some (.long x5), none], [.long s0], σ)).trans rfl
set_option maxRecDepth 20000 in
theorem q_170_4028 (G : Nat × (Nat → Int32)) (d : Nat) (x1 : Int32) (σ : aH) : Lq G d M_170 (0, [some (.ref 33), some (.int x1), none, none, none, none], [], σ) = Lq G d M_170 (9, [some (.ref 33), some (.int x1), none, none, none, none], [.int (((5 : Int32) * x1) + (1 : Int32)), .ref 36], σ) :=
  (aUn_eq (tkd G.1 G.2) tmi (aRun (tkd G.1 G.2) tmi tmt d) M_170 [] 7 (0, [some (.ref 33), some (.int x1), none, none, none, none], [], σ)).trans rfl
set_option maxRecDepth 20000 in
theorem q_170_4029 (G : Nat × (Nat → Int32)) (d : Nat) (x1 : Int32) (s0 : Int32) (σ : aH) : Lq G d M_170 (9, [some (.ref 33), some (.int x1), none, none, none, none], [.int s0, .ref 36], σ) = aIx (s0) 30 fun j1 => Lq G d M_170 (10, [some (.ref 33), some (.int x1), none, none, none, none], [.int (σ.1 36 j1)], σ) :=
  (aUn_eq (tkd G.1 G.2) tmi (aRun (tkd G.1 G.2) tmi tmt d) M_170 [] 1 (9, [some (.ref 33), some (.int x1), none, none, none, none], [.int s0, .ref 36], σ)).trans rfl
set_option maxRecDepth 20000 in
theorem q_170_4030 (G : Nat × (Nat → Int32)) (d : Nat) (x1 : Int32) (s0 : Int32) (σ : aH) : Lq G d M_170 (10, [some (.ref 33), some (.int x1), none, none, none, none], [.int s0], σ) = Lq G d M_170 (20, [some (.ref 33), some (.int x1), some (.int s0), none, none, none], [.int (((5 : Int32) * x1) + (3 : Int32)), .ref 36], σ) :=
  (aUn_eq (tkd G.1 G.2) tmi (aRun (tkd G.1 G.2) tmi tmt d) M_170 [] 8 (10, [some (.ref 33), some (.int x1), none, none, none, none], [.int s0], σ)).trans rfl
set_option maxRecDepth 20000 in
theorem q_170_4031 (G : Nat × (Nat → Int32)) (d : Nat) (x1 : Int32) (x2 : Int32) (s0 : Int32) (σ : aH) : Lq G d M_170 (20, [some (.ref 33), some (.int x1), some (.int x2), none, none, none], [.int s0, .ref 36], σ) = aIx (s0) 30 fun j1 => Lq G d M_170 (21, [some (.ref 33), some (.int x1), some (.int x2), none, none, none], [.int (σ.1 36 j1)], σ) :=
  (aUn_eq (tkd G.1 G.2) tmi (aRun (tkd G.1 G.2) tmi tmt d) M_170 [] 1 (20, [some (.ref 33), some (.int x1), some (.int x2), none, none, none], [.int s0, .ref 36], σ)).trans rfl
set_option maxRecDepth 20000 in
theorem q_170_4032 (G : Nat × (Nat → Int32)) (d : Nat) (x1 : Int32) (x2 : Int32) (s0 : Int32) (σ : aH) : Lq G d M_170 (21, [some (.ref 33), some (.int x1), some (.int x2), none, none, none], [.int s0], σ) = Lq G d M_170 (31, [some (.ref 33), some (.int x1), some (.int x2), some (.int s0), none, none], [.int (((5 : Int32) * x1) + (4 : Int32)), .ref 36], σ) :=
  (aUn_eq (tkd G.1 G.2) tmi (aRun (tkd G.1 G.2) tmi tmt d) M_170 [] 8 (21, [some (.ref 33), some (.int x1), some (.int x2), none, none, none], [.int s0], σ)).trans rfl
set_option maxRecDepth 20000 in
theorem q_170_4033 (G : Nat × (Nat → Int32)) (d : Nat) (x1 : Int32) (x2 : Int32) (x3 : Int32) (s0 : Int32) (σ : aH) : Lq G d M_170 (31, [some (.ref 33), some (.int x1), some (.int x2), some (.int x3), none, none], [.int s0, .ref 36], σ) = aIx (s0) 30 fun j1 => Lq G d M_170 (32, [some (.ref 33), some (.int x1), some (.int x2), some (.int x3), none, none], [.int (σ.1 36 j1)], σ) :=
  (aUn_eq (tkd G.1 G.2) tmi (aRun (tkd G.1 G.2) tmi tmt d) M_170 [] 1 (31, [some (.ref 33), some (.int x1), some (.int x2), some (.int x3), none, none], [.int s0, .ref 36], σ)).trans rfl
set_option maxRecDepth 20000 in
theorem q_170_4034 (G : Nat × (Nat → Int32)) (d : Nat) (x1 : Int32) (x2 : Int32) (x3 : Int32) (s0 : Int32) (σ : aH) : Lq G d M_170 (32, [some (.ref 33), some (.int x1), some (.int x2), some (.int x3), none, none], [.int s0], σ) = Lq G d M_170 (65, [some (.ref 33), some (.int x1), some (.int x2), some (.int x3), some (.int s0), none], [.long (((σ.1 50 0) + (σ.1 50 1))).toInt64, .long ((σ.1 51 0)).toInt64, .int ((1000 : Int32) * (σ.1 50 3))], σ) :=
  (aUn_eq (tkd G.1 G.2) tmi (aRun (tkd G.1 G.2) tmi tmt d) M_170 [] 22 (32, [some (.ref 33), some (.int x1), some (.int x2), some (.int x3), none, none], [.int s0], σ)).trans rfl
set_option maxRecDepth 20000 in
theorem q_170_4035 (G : Nat × (Nat → Int32)) (d : Nat) (x1 : Int32) (x2 : Int32) (x3 : Int32) (x4 : Int32) (s0 : Int64) (s1 : Int64) (s2 : Int32) (σ : aH) : Lq G d M_170 (65, [some (.ref 33), some (.int x1), some (.int x2), some (.int x3), some (.int x4), none], [.long s0, .long s1, .int s2], σ) = aCI (Rn G d 154 [.long s1, .long s0] σ) fun v2 σ1 => Lq G d M_170 (68, [some (.ref 33), some (.int x1), some (.int x2), some (.int x3), some (.int x4), none], [.int v2, .int s2], σ1) :=
  (aUn_eq (tkd G.1 G.2) tmi (aRun (tkd G.1 G.2) tmi tmt d) M_170 [] 1 (65, [some (.ref 33), some (.int x1), some (.int x2), some (.int x3), some (.int x4), none], [.long s0, .long s1, .int s2], σ)).trans rfl
set_option maxRecDepth 20000 in
theorem q_170_4036 (G : Nat × (Nat → Int32)) (d : Nat) (x1 : Int32) (x2 : Int32) (x3 : Int32) (x4 : Int32) (s0 : Int32) (s1 : Int32) (σ : aH) : Lq G d M_170 (68, [some (.ref 33), some (.int x1), some (.int x2), some (.int x3), some (.int x4), none], [.int s0, .int s1], σ) = Lq G d M_170 (69, [some (.ref 33), some (.int x1), some (.int x2), some (.int x3), some (.int x4), none], [.int x2, .int s0, .int s1], σ) :=
  (aUn_eq (tkd G.1 G.2) tmi (aRun (tkd G.1 G.2) tmi tmt d) M_170 [] 1 (68, [some (.ref 33), some (.int x1), some (.int x2), some (.int x3), some (.int x4), none], [.int s0, .int s1], σ)).trans rfl
set_option maxRecDepth 20000 in
theorem q_170_4037 (G : Nat × (Nat → Int32)) (d : Nat) (x1 : Int32) (x2 : Int32) (x3 : Int32) (x4 : Int32) (s0 : Int32) (s1 : Int32) (s2 : Int32) (σ : aH) : Lq G d M_170 (69, [some (.ref 33), some (.int x1), some (.int x2), some (.int x3), some (.int x4), none], [.int s0, .int s1, .int s2], σ) = aCI (Rn G d 171 [.int s2, .int s1, .int s0] σ) fun v2 σ1 => Lq G d M_170 (72, [some (.ref 33), some (.int x1), some (.int x2), some (.int x3), some (.int x4), none], [.int v2], σ1) :=
  (aUn_eq (tkd G.1 G.2) tmi (aRun (tkd G.1 G.2) tmi tmt d) M_170 [] 1 (69, [some (.ref 33), some (.int x1), some (.int x2), some (.int x3), some (.int x4), none], [.int s0, .int s1, .int s2], σ)).trans rfl
set_option maxRecDepth 20000 in
theorem q_170_4038 (G : Nat × (Nat → Int32)) (d : Nat) (x1 : Int32) (x2 : Int32) (x3 : Int32) (x4 : Int32) (s0 : Int32) (σ : aH) : Lq G d M_170 (72, [some (.ref 33), some (.int x1), some (.int x2), some (.int x3), some (.int x4), none], [.int s0], σ) = Lq G d M_170 (80, [some (.ref 33), some (.int x1), some (.int x2), some (.int x3), some (.int x4), some (.int s0)], [.int (σ.1 51 2)], σ) :=
  (aUn_eq (tkd G.1 G.2) tmi (aRun (tkd G.1 G.2) tmi tmt d) M_170 [] 5 (72, [some (.ref 33), some (.int x1), some (.int x2), some (.int x3), some (.int x4), none], [.int s0], σ)).trans rfl
set_option maxRecDepth 20000 in
theorem q_170_4039 (G : Nat × (Nat → Int32)) (d : Nat) (x1 : Int32) (x2 : Int32) (x3 : Int32) (x4 : Int32) (x5 : Int32) (s0 : Int32) (σ : aH) : Lq G d M_170 (80, [some (.ref 33), some (.int x1), some (.int x2), some (.int x3), some (.int x4), some (.int x5)], [.int s0], σ) = if s0 ≤ 0 then Lq G d M_170 (116, [some (.ref 33), some (.int x1), some (.int x2), some (.int x3), some (.int x4), some (.int x5)], [], σ) else Lq G d M_170 (83, [some (.ref 33), some (.int x1), some (.int x2), some (.int x3), some (.int x4), some (.int x5)], [], σ) :=
  (aUn_eq (tkd G.1 G.2) tmi (aRun (tkd G.1 G.2) tmi tmt d) M_170 [] 1 (80, [some (.ref 33), some (.int x1), some (.int x2), some (.int x3), some (.int x4), some (.int x5)], [.int s0], σ)).trans rfl
set_option maxRecDepth 20000 in
theorem q_170_4040 (G : Nat × (Nat → Int32)) (d : Nat) (x1 : Int32) (x2 : Int32) (x3 : Int32) (x4 : Int32) (x5 : Int32) (σ : aH) : Lq G d M_170 (116, [some (.ref 33), some (.int x1), some (.int x2), some (.int x3), some (.int x4), some (.int x5)], [], σ) = Lq G d M_170 (122, [some (.ref 33), some (.int x1), some (.int x2), some (.int x3), some (.int x4), some (.int x5)], [.int (σ.1 51 3)], σ) :=
  (aUn_eq (tkd G.1 G.2) tmi (aRun (tkd G.1 G.2) tmi tmt d) M_170 [] 4 (116, [some (.ref 33), some (.int x1), some (.int x2), some (.int x3), some (.int x4), some (.int x5)], [], σ)).trans rfl
set_option maxRecDepth 20000 in
theorem q_170_4041 (G : Nat × (Nat → Int32)) (d : Nat) (x1 : Int32) (x2 : Int32) (x3 : Int32) (x4 : Int32) (x5 : Int32) (s0 : Int32) (σ : aH) : Lq G d M_170 (122, [some (.ref 33), some (.int x1), some (.int x2), some (.int x3), some (.int x4), some (.int x5)], [.int s0], σ) = if s0 ≤ 0 then Lq G d M_170 (156, [some (.ref 33), some (.int x1), some (.int x2), some (.int x3), some (.int x4), some (.int x5)], [], σ) else Lq G d M_170 (125, [some (.ref 33), some (.int x1), some (.int x2), some (.int x3), some (.int x4), some (.int x5)], [], σ) :=
  (aUn_eq (tkd G.1 G.2) tmi (aRun (tkd G.1 G.2) tmi tmt d) M_170 [] 1 (122, [some (.ref 33), some (.int x1), some (.int x2), some (.int x3), some (.int x4), some (.int x5)], [.int s0], σ)).trans rfl
set_option maxRecDepth 20000 in
theorem q_170_4042 (G : Nat × (Nat → Int32)) (d : Nat) (x1 : Int32) (x2 : Int32) (x3 : Int32) (x4 : Int32) (x5 : Int32) (σ : aH) : Lq G d M_170 (156, [some (.ref 33), some (.int x1), some (.int x2), some (.int x3), some (.int x4), some (.int x5)], [], σ) = Lq G d M_170 (158, [some (.ref 33), some (.int x1), some (.int x2), some (.int x3), some (.int x4), some (.int x5)], [.int x5], σ) :=
  (aUn_eq (tkd G.1 G.2) tmi (aRun (tkd G.1 G.2) tmi tmt d) M_170 [] 1 (156, [some (.ref 33), some (.int x1), some (.int x2), some (.int x3), some (.int x4), some (.int x5)], [], σ)).trans rfl
set_option maxRecDepth 20000 in
theorem q_170_4043 (G : Nat × (Nat → Int32)) (d : Nat) (x1 : Int32) (x2 : Int32) (x3 : Int32) (x4 : Int32) (x5 : Int32) (s0 : Int32) (σ : aH) : Lq G d M_170 (158, [some (.ref 33), some (.int x1), some (.int x2), some (.int x3), some (.int x4), some (.int x5)], [.int s0], σ) = some (.inl (some (.int s0)), σ) :=
  (aUn_eq (tkd G.1 G.2) tmi (aRun (tkd G.1 G.2) tmi tmt d) M_170 [] 1 (158, [some (.ref 33), some (.int x1), some (.int x2), some (.int x3), some (.int x4), some (.int x5)], [.int s0], σ)).trans rfl
set_option maxRecDepth 20000 in
theorem q_170_4044 (G : Nat × (Nat → Int32)) (d : Nat) (x1 : Int32) (x2 : Int32) (x3 : Int32) (x4 : Int32) (x5 : Int32) (σ : aH) : Lq G d M_170 (125, [some (.ref 33), some (.int x1), some (.int x2), some (.int x3), some (.int x4), some (.int x5)], [], σ) = Lq G d M_170 (137, [some (.ref 33), some (.int x1), some (.int x2), some (.int x3), some (.int x4), some (.int x5)], [.int (1 : Int32), .int (σ.1 51 3), .int (1000 : Int32), .int x5], σ) :=
  (aUn_eq (tkd G.1 G.2) tmi (aRun (tkd G.1 G.2) tmi tmt d) M_170 [] 7 (125, [some (.ref 33), some (.int x1), some (.int x2), some (.int x3), some (.int x4), some (.int x5)], [], σ)).trans rfl
set_option maxRecDepth 20000 in
theorem q_170_4045 (G : Nat × (Nat → Int32)) (d : Nat) (x1 : Int32) (x2 : Int32) (x3 : Int32) (x4 : Int32) (x5 : Int32) (s0 : Int32) (s1 : Int32) (s2 : Int32) (s3 : Int32) (σ : aH) : Lq G d M_170 (137, [some (.ref 33), some (.int x1), some (.int x2), some (.int x3), some (.int x4), some (.int x5)], [.int s0, .int s1, .int s2, .int s3], σ) = if s1 = s0 then Lq G d M_170 (140, [some (.ref 33), some (.int x1), some (.int x2), some (.int x3), some (.int x4), some (.int x5)], [.int s2, .int s3], σ) else Lq G d M_170 (145, [some (.ref 33), some (.int x1), some (.int x2), some (.int x3), some (.int x4), some (.int x5)], [.int s2, .int s3], σ) :=
  (aUn_eq (tkd G.1 G.2) tmi (aRun (tkd G.1 G.2) tmi tmt d) M_170 [] 1 (137, [some (.ref 33), some (.int x1), some (.int x2), some (.int x3), some (.int x4), some (.int x5)], [.int s0, .int s1, .int s2, .int s3], σ)).trans rfl
set_option maxRecDepth 20000 in
theorem q_170_4046 (G : Nat × (Nat → Int32)) (d : Nat) (x1 : Int32) (x2 : Int32) (x3 : Int32) (x4 : Int32) (x5 : Int32) (s0 : Int32) (s1 : Int32) (σ : aH) : Lq G d M_170 (140, [some (.ref 33), some (.int x1), some (.int x2), some (.int x3), some (.int x4), some (.int x5)], [.int s0, .int s1], σ) = Lq G d M_170 (151, [some (.ref 33), some (.int x1), some (.int x2), some (.int x3), some (.int x4), some (.int x5)], [.int x2, .int (s0 * x4), .int s1], σ) :=
  (aUn_eq (tkd G.1 G.2) tmi (aRun (tkd G.1 G.2) tmi tmt d) M_170 [] 4 (140, [some (.ref 33), some (.int x1), some (.int x2), some (.int x3), some (.int x4), some (.int x5)], [.int s0, .int s1], σ)).trans rfl
set_option maxRecDepth 20000 in
theorem q_170_4047 (G : Nat × (Nat → Int32)) (d : Nat) (x1 : Int32) (x2 : Int32) (x3 : Int32) (x4 : Int32) (x5 : Int32) (s0 : Int32) (s1 : Int32) (s2 : Int32) (σ : aH) : Lq G d M_170 (151, [some (.ref 33), some (.int x1), some (.int x2), some (.int x3), some (.int x4), some (.int x5)], [.int s0, .int s1, .int s2], σ) = aCI (Rn G d 171 [.int s2, .int s1, .int s0] σ) fun v2 σ1 => Lq G d M_170 (154, [some (.ref 33), some (.int x1), some (.int x2), some (.int x3), some (.int x4), some (.int x5)], [.int v2], σ1) :=
  (aUn_eq (tkd G.1 G.2) tmi (aRun (tkd G.1 G.2) tmi tmt d) M_170 [] 1 (151, [some (.ref 33), some (.int x1), some (.int x2), some (.int x3), some (.int x4), some (.int x5)], [.int s0, .int s1, .int s2], σ)).trans rfl
set_option maxRecDepth 20000 in
theorem q_170_4048 (G : Nat × (Nat → Int32)) (d : Nat) (x1 : Int32) (x2 : Int32) (x3 : Int32) (x4 : Int32) (x5 : Int32) (s0 : Int32) (σ : aH) : Lq G d M_170 (154, [some (.ref 33), some (.int x1), some (.int x2), some (.int x3), some (.int x4), some (.int x5)], [.int s0], σ) = Lq G d M_170 (158, [some (.ref 33), some (.int x1), some (.int x2), some (.int x3), some (.int x4), some (.int s0)], [.int s0], σ) :=
  (aUn_eq (tkd G.1 G.2) tmi (aRun (tkd G.1 G.2) tmi tmt d) M_170 [] 2 (154, [some (.ref 33), some (.int x1), some (.int x2), some (.int x3), some (.int x4), some (.int x5)], [.int s0], σ)).trans rfl
set_option maxRecDepth 20000 in
theorem q_170_4049 (G : Nat × (Nat → Int32)) (d : Nat) (x1 : Int32) (x2 : Int32) (x3 : Int32) (x4 : Int32) (x5 : Int32) (s0 : Int32) (s1 : Int32) (σ : aH) : Lq G d M_170 (145, [some (.ref 33), some (.int x1), some (.int x2), some (.int x3), some (.int x4), some (.int x5)], [.int s0, .int s1], σ) = Lq G d M_170 (151, [some (.ref 33), some (.int x1), some (.int x2), some (.int x3), some (.int x4), some (.int x5)], [.int x2, .int (s0 * (x4 / (2 : Int32))), .int s1], σ) :=
  (aUn_eq (tkd G.1 G.2) tmi (aRun (tkd G.1 G.2) tmi tmt d) M_170 [] 5 (145, [some (.ref 33), some (.int x1), some (.int x2), some (.int x3), some (.int x4), some (.int x5)], [.int s0, .int s1], σ)).trans rfl
set_option maxRecDepth 20000 in
theorem q_170_4050 (G : Nat × (Nat → Int32)) (d : Nat) (x1 : Int32) (x2 : Int32) (x3 : Int32) (x4 : Int32) (x5 : Int32) (σ : aH) : Lq G d M_170 (83, [some (.ref 33), some (.int x1), some (.int x2), some (.int x3), some (.int x4), some (.int x5)], [], σ) = Lq G d M_170 (95, [some (.ref 33), some (.int x1), some (.int x2), some (.int x3), some (.int x4), some (.int x5)], [.int (1 : Int32), .int (σ.1 51 2), .int (1000 : Int32), .int x5], σ) :=
  (aUn_eq (tkd G.1 G.2) tmi (aRun (tkd G.1 G.2) tmi tmt d) M_170 [] 7 (83, [some (.ref 33), some (.int x1), some (.int x2), some (.int x3), some (.int x4), some (.int x5)], [], σ)).trans rfl
set_option maxRecDepth 20000 in
theorem q_170_4051 (G : Nat × (Nat → Int32)) (d : Nat) (x1 : Int32) (x2 : Int32) (x3 : Int32) (x4 : Int32) (x5 : Int32) (s0 : Int32) (s1 : Int32) (s2 : Int32) (s3 : Int32) (σ : aH) : Lq G d M_170 (95, [some (.ref 33), some (.int x1), some (.int x2), some (.int x3), some (.int x4), some (.int x5)], [.int s0, .int s1, .int s2, .int s3], σ) = if s1 = s0 then Lq G d M_170 (98, [some (.ref 33), some (.int x1), some (.int x2), some (.int x3), some (.int x4), some (.int x5)], [.int s2, .int s3], σ) else Lq G d M_170 (102, [some (.ref 33), some (.int x1), some (.int x2), some (.int x3), some (.int x4), some (.int x5)], [.int s2, .int s3], σ) :=
  (aUn_eq (tkd G.1 G.2) tmi (aRun (tkd G.1 G.2) tmi tmt d) M_170 [] 1 (95, [some (.ref 33), some (.int x1), some (.int x2), some (.int x3), some (.int x4), some (.int x5)], [.int s0, .int s1, .int s2, .int s3], σ)).trans rfl
set_option maxRecDepth 20000 in
theorem q_170_4052 (G : Nat × (Nat → Int32)) (d : Nat) (x1 : Int32) (x2 : Int32) (x3 : Int32) (x4 : Int32) (x5 : Int32) (s0 : Int32) (s1 : Int32) (σ : aH) : Lq G d M_170 (98, [some (.ref 33), some (.int x1), some (.int x2), some (.int x3), some (.int x4), some (.int x5)], [.int s0, .int s1], σ) = Lq G d M_170 (111, [some (.ref 33), some (.int x1), some (.int x2), some (.int x3), some (.int x4), some (.int x5)], [.int x2, .int (s0 * x3), .int s1], σ) :=
  (aUn_eq (tkd G.1 G.2) tmi (aRun (tkd G.1 G.2) tmi tmt d) M_170 [] 4 (98, [some (.ref 33), some (.int x1), some (.int x2), some (.int x3), some (.int x4), some (.int x5)], [.int s0, .int s1], σ)).trans rfl
set_option maxRecDepth 20000 in
theorem q_170_4053 (G : Nat × (Nat → Int32)) (d : Nat) (x1 : Int32) (x2 : Int32) (x3 : Int32) (x4 : Int32) (x5 : Int32) (s0 : Int32) (s1 : Int32) (s2 : Int32) (σ : aH) : Lq G d M_170 (111, [some (.ref 33), some (.int x1), some (.int x2), some (.int x3), some (.int x4), some (.int x5)], [.int s0, .int s1, .int s2], σ) = aCI (Rn G d 171 [.int s2, .int s1, .int s0] σ) fun v2 σ1 => Lq G d M_170 (114, [some (.ref 33), some (.int x1), some (.int x2), some (.int x3), some (.int x4), some (.int x5)], [.int v2], σ1) :=
  (aUn_eq (tkd G.1 G.2) tmi (aRun (tkd G.1 G.2) tmi tmt d) M_170 [] 1 (111, [some (.ref 33), some (.int x1), some (.int x2), some (.int x3), some (.int x4), some (.int x5)], [.int s0, .int s1, .int s2], σ)).trans rfl
set_option maxRecDepth 20000 in
theorem q_170_4054 (G : Nat × (Nat → Int32)) (d : Nat) (x1 : Int32) (x2 : Int32) (x3 : Int32) (x4 : Int32) (x5 : Int32) (s0 : Int32) (σ : aH) : Lq G d M_170 (114, [some (.ref 33), some (.int x1), some (.int x2), some (.int x3), some (.int x4), some (.int x5)], [.int s0], σ) = Lq G d M_170 (122, [some (.ref 33), some (.int x1), some (.int x2), some (.int x3), some (.int x4), some (.int s0)], [.int (σ.1 51 3)], σ) :=
  (aUn_eq (tkd G.1 G.2) tmi (aRun (tkd G.1 G.2) tmi tmt d) M_170 [] 5 (114, [some (.ref 33), some (.int x1), some (.int x2), some (.int x3), some (.int x4), some (.int x5)], [.int s0], σ)).trans rfl
set_option maxRecDepth 20000 in
theorem q_170_4055 (G : Nat × (Nat → Int32)) (d : Nat) (x1 : Int32) (x2 : Int32) (x3 : Int32) (x4 : Int32) (x5 : Int32) (s0 : Int32) (s1 : Int32) (σ : aH) : Lq G d M_170 (102, [some (.ref 33), some (.int x1), some (.int x2), some (.int x3), some (.int x4), some (.int x5)], [.int s0, .int s1], σ) = Lq G d M_170 (111, [some (.ref 33), some (.int x1), some (.int x2), some (.int x3), some (.int x4), some (.int x5)], [.int x2, .int (s0 * (((1000 : Int32) + x3) / (2 : Int32))), .int s1], σ) :=
  (aUn_eq (tkd G.1 G.2) tmi (aRun (tkd G.1 G.2) tmi tmt d) M_170 [] 7 (102, [some (.ref 33), some (.int x1), some (.int x2), some (.int x3), some (.int x4), some (.int x5)], [.int s0, .int s1], σ)).trans rfl
set_option maxRecDepth 20000 in
theorem q_172_4056 (G : Nat × (Nat → Int32)) (d : Nat) (x1 : Int32) (x2 : Int32) (σ : aH) : Lq G d M_172 (0, [some (.ref 33), some (.int x1), some (.int x2)], [], σ) = Lq G d M_172 (15, [some (.ref 33), some (.int x1), some (.int x2)], [.long ((σ.1 50 2)).toInt64, .long ((σ.1 51 1)).toInt64, .int x2], σ) :=
  (aUn_eq (tkd G.1 G.2) tmi (aRun (tkd G.1 G.2) tmi tmt d) M_172 [] 11 (0, [some (.ref 33), some (.int x1), some (.int x2)], [], σ)).trans rfl
set_option maxRecDepth 20000 in
theorem q_172_4057 (G : Nat × (Nat → Int32)) (d : Nat) (x1 : Int32) (x2 : Int32) (s0 : Int64) (s1 : Int64) (s2 : Int32) (σ : aH) : Lq G d M_172 (15, [some (.ref 33), some (.int x1), some (.int x2)], [.long s0, .long s1, .int s2], σ) = aCI (Rn G d 154 [.long s1, .long s0] σ) fun v2 σ1 => Lq G d M_172 (18, [some (.ref 33), some (.int x1), some (.int x2)], [.int v2, .int s2], σ1) :=
  (aUn_eq (tkd G.1 G.2) tmi (aRun (tkd G.1 G.2) tmi tmt d) M_172 [] 1 (15, [some (.ref 33), some (.int x1), some (.int x2)], [.long s0, .long s1, .int s2], σ)).trans rfl
set_option maxRecDepth 20000 in
theorem q_172_4058 (G : Nat × (Nat → Int32)) (d : Nat) (x1 : Int32) (x2 : Int32) (s0 : Int32) (s1 : Int32) (σ : aH) : Lq G d M_172 (18, [some (.ref 33), some (.int x1), some (.int x2)], [.int s0, .int s1], σ) = Lq G d M_172 (27, [some (.ref 33), some (.int x1), some (.int x2)], [.int (((5 : Int32) * x1) + (1 : Int32)), .ref 36, .int s0, .int s1], σ) :=
  (aUn_eq (tkd G.1 G.2) tmi (aRun (tkd G.1 G.2) tmi tmt d) M_172 [] 7 (18, [some (.ref 33), some (.int x1), some (.int x2)], [.int s0, .int s1], σ)).trans rfl
set_option maxRecDepth 20000 in
theorem q_172_4059 (G : Nat × (Nat → Int32)) (d : Nat) (x1 : Int32) (x2 : Int32) (s0 : Int32) (s2 : Int32) (s3 : Int32) (σ : aH) : Lq G d M_172 (27, [some (.ref 33), some (.int x1), some (.int x2)], [.int s0, .ref 36, .int s2, .int s3], σ) = aIx (s0) 30 fun j1 => Lq G d M_172 (28, [some (.ref 33), some (.int x1), some (.int x2)], [.int (σ.1 36 j1), .int s2, .int s3], σ) :=
  (aUn_eq (tkd G.1 G.2) tmi (aRun (tkd G.1 G.2) tmi tmt d) M_172 [] 1 (27, [some (.ref 33), some (.int x1), some (.int x2)], [.int s0, .ref 36, .int s2, .int s3], σ)).trans rfl
set_option maxRecDepth 20000 in
theorem q_172_4060 (G : Nat × (Nat → Int32)) (d : Nat) (x1 : Int32) (x2 : Int32) (s0 : Int32) (s1 : Int32) (s2 : Int32) (σ : aH) : Lq G d M_172 (28, [some (.ref 33), some (.int x1), some (.int x2)], [.int s0, .int s1, .int s2], σ) = aCI (Rn G d 171 [.int s2, .int s1, .int s0] σ) fun v2 σ1 => Lq G d M_172 (31, [some (.ref 33), some (.int x1), some (.int x2)], [.int v2], σ1) :=
  (aUn_eq (tkd G.1 G.2) tmi (aRun (tkd G.1 G.2) tmi tmt d) M_172 [] 1 (28, [some (.ref 33), some (.int x1), some (.int x2)], [.int s0, .int s1, .int s2], σ)).trans rfl
set_option maxRecDepth 20000 in
theorem q_172_4061 (G : Nat × (Nat → Int32)) (d : Nat) (x1 : Int32) (x2 : Int32) (s0 : Int32) (σ : aH) : Lq G d M_172 (31, [some (.ref 33), some (.int x1), some (.int x2)], [.int s0], σ) = some (.inl (some (.int s0)), σ) :=
  (aUn_eq (tkd G.1 G.2) tmi (aRun (tkd G.1 G.2) tmi tmt d) M_172 [] 1 (31, [some (.ref 33), some (.int x1), some (.int x2)], [.int s0], σ)).trans rfl
set_option maxRecDepth 20000 in
theorem q_186_4062 (G : Nat × (Nat → Int32)) (d : Nat)  (σ : aH) : Lq G d M_186 (0, [some (.ref 24), none], [], σ) = Lq G d M_186 (4, [some (.ref 24), none], [.int (σ.1 24 12)], σ) :=
  (aUn_eq (tkd G.1 G.2) tmi (aRun (tkd G.1 G.2) tmi tmt d) M_186 [] 2 (0, [some (.ref 24), none], [], σ)).trans rfl
set_option maxRecDepth 20000 in
theorem q_186_4063 (G : Nat × (Nat → Int32)) (d : Nat) (s0 : Int32) (σ : aH) : Lq G d M_186 (4, [some (.ref 24), none], [.int s0], σ) = if s0 = 0 then Lq G d M_186 (7, [some (.ref 24), none], [], σ) else Lq G d M_186 (9, [some (.ref 24), none], [], σ) :=
  (aUn_eq (tkd G.1 G.2) tmi (aRun (tkd G.1 G.2) tmi tmt d) M_186 [] 1 (4, [some (.ref 24), none], [.int s0], σ)).trans rfl
set_option maxRecDepth 20000 in
theorem q_186_4064 (G : Nat × (Nat → Int32)) (d : Nat)  (σ : aH) : Lq G d M_186 (7, [some (.ref 24), none], [], σ) = Lq G d M_186 (8, [some (.ref 24), none], [.int (0 : Int32)], σ) :=
  (aUn_eq (tkd G.1 G.2) tmi (aRun (tkd G.1 G.2) tmi tmt d) M_186 [] 1 (7, [some (.ref 24), none], [], σ)).trans rfl
set_option maxRecDepth 20000 in
theorem q_186_4065 (G : Nat × (Nat → Int32)) (d : Nat) (s0 : Int32) (σ : aH) : Lq G d M_186 (8, [some (.ref 24), none], [.int s0], σ) = some (.inl (some (.int s0)), σ) :=
  (aUn_eq (tkd G.1 G.2) tmi (aRun (tkd G.1 G.2) tmi tmt d) M_186 [] 1 (8, [some (.ref 24), none], [.int s0], σ)).trans rfl
set_option maxRecDepth 20000 in
theorem q_186_4066 (G : Nat × (Nat → Int32)) (d : Nat)  (σ : aH) : Lq G d M_186 (9, [some (.ref 24), none], [], σ) = Lq G d M_186 (14, [some (.ref 24), none], [.int (2 : Int32), .int (σ.1 24 12)], σ) :=
  (aUn_eq (tkd G.1 G.2) tmi (aRun (tkd G.1 G.2) tmi tmt d) M_186 [] 3 (9, [some (.ref 24), none], [], σ)).trans rfl
set_option maxRecDepth 20000 in
theorem q_186_4067 (G : Nat × (Nat → Int32)) (d : Nat) (s0 : Int32) (s1 : Int32) (σ : aH) : Lq G d M_186 (14, [some (.ref 24), none], [.int s0, .int s1], σ) = if s1 = s0 then Lq G d M_186 (17, [some (.ref 24), none], [], σ) else Lq G d M_186 (35, [some (.ref 24), none], [], σ) :=
  (aUn_eq (tkd G.1 G.2) tmi (aRun (tkd G.1 G.2) tmi tmt d) M_186 [] 1 (14, [some (.ref 24), none], [.int s0, .int s1], σ)).trans rfl
set_option maxRecDepth 20000 in
theorem q_186_4068 (G : Nat × (Nat → Int32)) (d : Nat)  (σ : aH) : Lq G d M_186 (17, [some (.ref 24), none], [], σ) = Lq G d M_186 (34, [some (.ref 24), none], [.int ((σ.1 24 11) - (((σ.1 24 11) * (σ.1 24 5)) / (100 : Int32)))], σ) :=
  (aUn_eq (tkd G.1 G.2) tmi (aRun (tkd G.1 G.2) tmi tmt d) M_186 [] 10 (17, [some (.ref 24), none], [], σ)).trans rfl
set_option maxRecDepth 20000 in
theorem q_186_4069 (G : Nat × (Nat → Int32)) (d : Nat) (s0 : Int32) (σ : aH) : Lq G d M_186 (34, [some (.ref 24), none], [.int s0], σ) = some (.inl (some (.int s0)), σ) :=
  (aUn_eq (tkd G.1 G.2) tmi (aRun (tkd G.1 G.2) tmi tmt d) M_186 [] 1 (34, [some (.ref 24), none], [.int s0], σ)).trans rfl
set_option maxRecDepth 20000 in
theorem q_186_4070 (G : Nat × (Nat → Int32)) (d : Nat)  (σ : aH) : Lq G d M_186 (35, [some (.ref 24), none], [], σ) = Lq G d M_186 (36, [some (.ref 24), none], [.ref 24], σ) :=
  (aUn_eq (tkd G.1 G.2) tmi (aRun (tkd G.1 G.2) tmi tmt d) M_186 [] 1 (35, [some (.ref 24), none], [], σ)).trans rfl
set_option maxRecDepth 20000 in
theorem q_186_4071 (G : Nat × (Nat → Int32)) (d : Nat)  (σ : aH) : Lq G d M_186 (36, [some (.ref 24), none], [.ref 24], σ) = aCI (Rn G d 175 [.ref 24] σ) fun v2 σ1 => Lq G d M_186 (39, [some (.ref 24), none], [.int v2], σ1) :=
  (aUn_eq (tkd G.1 G.2) tmi (aRun (tkd G.1 G.2) tmi tmt d) M_186 [] 1 (36, [some (.ref 24), none], [.ref 24], σ)).trans rfl
set_option maxRecDepth 20000 in
theorem q_186_4072 (G : Nat × (Nat → Int32)) (d : Nat) (s0 : Int32) (σ : aH) : Lq G d M_186 (39, [some (.ref 24), none], [.int s0], σ) = Lq G d M_186 (42, [some (.ref 24), some (.int s0)], [.int (-1 : Int32), .int s0], σ) :=
  (aUn_eq (tkd G.1 G.2) tmi (aRun (tkd G.1 G.2) tmi tmt d) M_186 [] 3 (39, [some (.ref 24), none], [.int s0], σ)).trans rfl
set_option maxRecDepth 20000 in
theorem q_186_4073 (G : Nat × (Nat → Int32)) (d : Nat) (x1 : Int32) (s0 : Int32) (s1 : Int32) (σ : aH) : Lq G d M_186 (42, [some (.ref 24), some (.int x1)], [.int s0, .int s1], σ) = if s1 = s0 then Lq G d M_186 (45, [some (.ref 24), some (.int x1)], [], σ) else Lq G d M_186 (54, [some (.ref 24), some (.int x1)], [], σ) :=
  (aUn_eq (tkd G.1 G.2) tmi (aRun (tkd G.1 G.2) tmi tmt d) M_186 [] 1 (42, [some (.ref 24), some (.int x1)], [.int s0, .int s1], σ)).trans rfl
set_option maxRecDepth 20000 in
theorem q_186_4074 (G : Nat × (Nat → Int32)) (d : Nat) (x1 : Int32) (σ : aH) : Lq G d M_186 (45, [some (.ref 24), some (.int x1)], [], σ) = Lq G d M_186 (55, [some (.ref 24), some (.int x1)], [.int ((σ.1 24 11) + (1 : Int32))], σ) :=
  (aUn_eq (tkd G.1 G.2) tmi (aRun (tkd G.1 G.2) tmi tmt d) M_186 [] 5 (45, [some (.ref 24), some (.int x1)], [], σ)).trans rfl
set_option maxRecDepth 20000 in
theorem q_186_4075 (G : Nat × (Nat → Int32)) (d : Nat) (x1 : Int32) (s0 : Int32) (σ : aH) : Lq G d M_186 (55, [some (.ref 24), some (.int x1)], [.int s0], σ) = some (.inl (some (.int s0)), σ) :=
  (aUn_eq (tkd G.1 G.2) tmi (aRun (tkd G.1 G.2) tmi tmt d) M_186 [] 1 (55, [some (.ref 24), some (.int x1)], [.int s0], σ)).trans rfl
set_option maxRecDepth 20000 in
theorem q_186_4076 (G : Nat × (Nat → Int32)) (d : Nat) (x1 : Int32) (σ : aH) : Lq G d M_186 (54, [some (.ref 24), some (.int x1)], [], σ) = Lq G d M_186 (55, [some (.ref 24), some (.int x1)], [.int x1], σ) :=
  (aUn_eq (tkd G.1 G.2) tmi (aRun (tkd G.1 G.2) tmi tmt d) M_186 [] 1 (54, [some (.ref 24), some (.int x1)], [], σ)).trans rfl
set_option maxRecDepth 20000 in
theorem q_187_4077 (G : Nat × (Nat → Int32)) (d : Nat)  (σ : aH) : Lq G d M_187 (0, [some (.ref 24)], [], σ) = Lq G d M_187 (5, [some (.ref 24)], [.int (1 : Int32), .int (σ.1 24 10)], σ) :=
  (aUn_eq (tkd G.1 G.2) tmi (aRun (tkd G.1 G.2) tmi tmt d) M_187 [] 3 (0, [some (.ref 24)], [], σ)).trans rfl
set_option maxRecDepth 20000 in
theorem q_187_4078 (G : Nat × (Nat → Int32)) (d : Nat) (s0 : Int32) (s1 : Int32) (σ : aH) : Lq G d M_187 (5, [some (.ref 24)], [.int s0, .int s1], σ) = if s1 = s0 then Lq G d M_187 (8, [some (.ref 24)], [], σ) else Lq G d M_187 (23, [some (.ref 24)], [], σ) :=
  (aUn_eq (tkd G.1 G.2) tmi (aRun (tkd G.1 G.2) tmi tmt d) M_187 [] 1 (5, [some (.ref 24)], [.int s0, .int s1], σ)).trans rfl
set_option maxRecDepth 20000 in
theorem q_187_4079 (G : Nat × (Nat → Int32)) (d : Nat)  (σ : aH) : Lq G d M_187 (8, [some (.ref 24)], [], σ) = Lq G d M_187 (35, [some (.ref 24)], [.int ((((6 : Int32) * (σ.1 24 5)) / (100 : Int32)) - (3 : Int32))], σ) :=
  (aUn_eq (tkd G.1 G.2) tmi (aRun (tkd G.1 G.2) tmi tmt d) M_187 [] 9 (8, [some (.ref 24)], [], σ)).trans rfl
set_option maxRecDepth 20000 in
theorem q_187_4080 (G : Nat × (Nat → Int32)) (d : Nat) (s0 : Int32) (σ : aH) : Lq G d M_187 (35, [some (.ref 24)], [.int s0], σ) = some (.inl (some (.int s0)), σ) :=
  (aUn_eq (tkd G.1 G.2) tmi (aRun (tkd G.1 G.2) tmi tmt d) M_187 [] 1 (35, [some (.ref 24)], [.int s0], σ)).trans rfl
set_option maxRecDepth 20000 in
theorem q_187_4081 (G : Nat × (Nat → Int32)) (d : Nat)  (σ : aH) : Lq G d M_187 (23, [some (.ref 24)], [], σ) = Lq G d M_187 (35, [some (.ref 24)], [.int ((((6 : Int32) * (σ.1 24 16)) / (1000000 : Int32)) - (3 : Int32))], σ) :=
  (aUn_eq (tkd G.1 G.2) tmi (aRun (tkd G.1 G.2) tmi tmt d) M_187 [] 8 (23, [some (.ref 24)], [], σ)).trans rfl
set_option maxRecDepth 20000 in
theorem q_191_4082 (G : Nat × (Nat → Int32)) (d : Nat) (x1 : Int32) (σ : aH) : Lq G d M_191 (0, [some (.ref 33), some (.int x1), none, none], [], σ) = Lq G d M_191 (7, [some (.ref 33), some (.int x1), none, none], [.int ((5 : Int32) * x1), .ref 36], σ) :=
  (aUn_eq (tkd G.1 G.2) tmi (aRun (tkd G.1 G.2) tmi tmt d) M_191 [] 5 (0, [some (.ref 33), some (.int x1), none, none], [], σ)).trans rfl
set_option maxRecDepth 20000 in
theorem q_191_4083 (G : Nat × (Nat → Int32)) (d : Nat) (x1 : Int32) (s0 : Int32) (σ : aH) : Lq G d M_191 (7, [some (.ref 33), some (.int x1), none, none], [.int s0, .ref 36], σ) = aIx (s0) 30 fun j1 => Lq G d M_191 (8, [some (.ref 33), some (.int x1), none, none], [.int (σ.1 36 j1)], σ) :=
  (aUn_eq (tkd G.1 G.2) tmi (aRun (tkd G.1 G.2) tmi tmt d) M_191 [] 1 (7, [some (.ref 33), some (.int x1), none, none], [.int s0, .ref 36], σ)).trans rfl
set_option maxRecDepth 20000 in
theorem q_191_4084 (G : Nat × (Nat → Int32)) (d : Nat) (x1 : Int32) (s0 : Int32) (σ : aH) : Lq G d M_191 (8, [some (.ref 33), some (.int x1), none, none], [.int s0], σ) = Lq G d M_191 (10, [some (.ref 33), some (.int x1), some (.int s0), none], [.int s0], σ) :=
  (aUn_eq (tkd G.1 G.2) tmi (aRun (tkd G.1 G.2) tmi tmt d) M_191 [] 2 (8, [some (.ref 33), some (.int x1), none, none], [.int s0], σ)).trans rfl
set_option maxRecDepth 20000 in
theorem q_191_4085 (G : Nat × (Nat → Int32)) (d : Nat) (x1 : Int32) (x2 : Int32) (s0 : Int32) (σ : aH) : Lq G d M_191 (10, [some (.ref 33), some (.int x1), some (.int x2), none], [.int s0], σ) = if s0 = 0 then Lq G d M_191 (13, [some (.ref 33), some (.int x1), some (.int x2), none], [], σ) else Lq G d M_191 (15, [some (.ref 33), some (.int x1), some (.int x2), none], [], σ) :=
  (aUn_eq (tkd G.1 G.2) tmi (aRun (tkd G.1 G.2) tmi tmt d) M_191 [] 1 (10, [some (.ref 33), some (.int x1), some (.int x2), none], [.int s0], σ)).trans rfl
set_option maxRecDepth 20000 in
theorem q_191_4086 (G : Nat × (Nat → Int32)) (d : Nat) (x1 : Int32) (x2 : Int32) (σ : aH) : Lq G d M_191 (13, [some (.ref 33), some (.int x1), some (.int x2), none], [], σ) = Lq G d M_191 (14, [some (.ref 33), some (.int x1), some (.int x2), none], [.int (0 : Int32)], σ) :=
  (aUn_eq (tkd G.1 G.2) tmi (aRun (tkd G.1 G.2) tmi tmt d) M_191 [] 1 (13, [some (.ref 33), some (.int x1), some (.int x2), none], [], σ)).trans rfl
set_option maxRecDepth 20000 in
theorem q_191_4087 (G : Nat × (Nat → Int32)) (d : Nat) (x1 : Int32) (x2 : Int32) (s0 : Int32) (σ : aH) : Lq G d M_191 (14, [some (.ref 33), some (.int x1), some (.int x2), none], [.int s0], σ) = some (.inl (some (.int s0)), σ) :=
  (aUn_eq (tkd G.1 G.2) tmi (aRun (tkd G.1 G.2) tmi tmt d) M_191 [] 1 (14, [some (.ref 33), some (.int x1), some (.int x2), none], [.int s0], σ)).trans rfl
set_option maxRecDepth 20000 in
theorem q_191_4088 (G : Nat × (Nat → Int32)) (d : Nat) (x1 : Int32) (x2 : Int32) (σ : aH) : Lq G d M_191 (15, [some (.ref 33), some (.int x1), some (.int x2), none], [], σ) = Lq G d M_191 (17, [some (.ref 33), some (.int x1), some (.int x2), none], [.int (2 : Int32), .int x2], σ) :=
  (aUn_eq (tkd G.1 G.2) tmi (aRun (tkd G.1 G.2) tmi tmt d) M_191 [] 2 (15, [some (.ref 33), some (.int x1), some (.int x2), none], [], σ)).trans rfl
set_option maxRecDepth 20000 in
theorem q_191_4089 (G : Nat × (Nat → Int32)) (d : Nat) (x1 : Int32) (x2 : Int32) (s0 : Int32) (s1 : Int32) (σ : aH) : Lq G d M_191 (17, [some (.ref 33), some (.int x1), some (.int x2), none], [.int s0, .int s1], σ) = if s1 = s0 then Lq G d M_191 (20, [some (.ref 33), some (.int x1), some (.int x2), none], [], σ) else Lq G d M_191 (44, [some (.ref 33), some (.int x1), some (.int x2), none], [], σ) :=
  (aUn_eq (tkd G.1 G.2) tmi (aRun (tkd G.1 G.2) tmi tmt d) M_191 [] 1 (17, [some (.ref 33), some (.int x1), some (.int x2), none], [.int s0, .int s1], σ)).trans rfl
set_option maxRecDepth 20000 in
theorem q_191_4090 (G : Nat × (Nat → Int32)) (d : Nat) (x1 : Int32) (x2 : Int32) (σ : aH) : Lq G d M_191 (20, [some (.ref 33), some (.int x1), some (.int x2), none], [], σ) = Lq G d M_191 (43, [some (.ref 33), some (.int x1), some (.int x2), none], [.int ((σ.1 51 5) - (((σ.1 51 5) * (σ.1 50 5)) / (100 : Int32)))], σ) :=
  (aUn_eq (tkd G.1 G.2) tmi (aRun (tkd G.1 G.2) tmi tmt d) M_191 [] 16 (20, [some (.ref 33), some (.int x1), some (.int x2), none], [], σ)).trans rfl
set_option maxRecDepth 20000 in
theorem q_191_4091 (G : Nat × (Nat → Int32)) (d : Nat) (x1 : Int32) (x2 : Int32) (s0 : Int32) (σ : aH) : Lq G d M_191 (43, [some (.ref 33), some (.int x1), some (.int x2), none], [.int s0], σ) = some (.inl (some (.int s0)), σ) :=
  (aUn_eq (tkd G.1 G.2) tmi (aRun (tkd G.1 G.2) tmi tmt d) M_191 [] 1 (43, [some (.ref 33), some (.int x1), some (.int x2), none], [.int s0], σ)).trans rfl
set_option maxRecDepth 20000 in
theorem q_191_4092 (G : Nat × (Nat → Int32)) (d : Nat) (x1 : Int32) (x2 : Int32) (σ : aH) : Lq G d M_191 (44, [some (.ref 33), some (.int x1), some (.int x2), none], [], σ) = Lq G d M_191 (46, [some (.ref 33), some (.int x1), some (.int x2), none], [.int x1, .ref 33], σ) :=
  (aUn_eq (tkd G.1 G.2) tmi (aRun (tkd G.1 G.2) tmi tmt d) M_191 [] 2 (44, [some (.ref 33), some (.int x1), some (.int x2), none], [], σ)).trans rfl
set_option maxRecDepth 20000 in
theorem q_191_4093 (G : Nat × (Nat → Int32)) (d : Nat) (x1 : Int32) (x2 : Int32) (s0 : Int32) (σ : aH) : Lq G d M_191 (46, [some (.ref 33), some (.int x1), some (.int x2), none], [.int s0, .ref 33], σ) = aCI (Rn G d 181 [.ref 33, .int s0] σ) fun v2 σ1 => Lq G d M_191 (49, [some (.ref 33), some (.int x1), some (.int x2), none], [.int v2], σ1) :=
  (aUn_eq (tkd G.1 G.2) tmi (aRun (tkd G.1 G.2) tmi tmt d) M_191 [] 1 (46, [some (.ref 33), some (.int x1), some (.int x2), none], [.int s0, .ref 33], σ)).trans rfl
set_option maxRecDepth 20000 in
theorem q_191_4094 (G : Nat × (Nat → Int32)) (d : Nat) (x1 : Int32) (x2 : Int32) (s0 : Int32) (σ : aH) : Lq G d M_191 (49, [some (.ref 33), some (.int x1), some (.int x2), none], [.int s0], σ) = Lq G d M_191 (52, [some (.ref 33), some (.int x1), some (.int x2), some (.int s0)], [.int (-1 : Int32), .int s0], σ) :=
  (aUn_eq (tkd G.1 G.2) tmi (aRun (tkd G.1 G.2) tmi tmt d) M_191 [] 3 (49, [some (.ref 33), some (.int x1), some (.int x2), none], [.int s0], σ)).trans rfl
set_option maxRecDepth 20000 in
theorem q_191_4095 (G : Nat × (Nat → Int32)) (d : Nat) (x1 : Int32) (x2 : Int32) (x3 : Int32) (s0 : Int32) (s1 : Int32) (σ : aH) : Lq G d M_191 (52, [some (.ref 33), some (.int x1), some (.int x2), some (.int x3)], [.int s0, .int s1], σ) = if s1 = s0 then Lq G d M_191 (55, [some (.ref 33), some (.int x1), some (.int x2), some (.int x3)], [], σ) else Lq G d M_191 (66, [some (.ref 33), some (.int x1), some (.int x2), some (.int x3)], [], σ) :=
  (aUn_eq (tkd G.1 G.2) tmi (aRun (tkd G.1 G.2) tmi tmt d) M_191 [] 1 (52, [some (.ref 33), some (.int x1), some (.int x2), some (.int x3)], [.int s0, .int s1], σ)).trans rfl
set_option maxRecDepth 20000 in
theorem q_191_4096 (G : Nat × (Nat → Int32)) (d : Nat) (x1 : Int32) (x2 : Int32) (x3 : Int32) (σ : aH) : Lq G d M_191 (55, [some (.ref 33), some (.int x1), some (.int x2), some (.int x3)], [], σ) = Lq G d M_191 (67, [some (.ref 33), some (.int x1), some (.int x2), some (.int x3)], [.int ((σ.1 51 5) + (1 : Int32))], σ) :=
  (aUn_eq (tkd G.1 G.2) tmi (aRun (tkd G.1 G.2) tmi tmt d) M_191 [] 7 (55, [some (.ref 33), some (.int x1), some (.int x2), some (.int x3)], [], σ)).trans rfl
set_option maxRecDepth 20000 in
theorem q_191_4097 (G : Nat × (Nat → Int32)) (d : Nat) (x1 : Int32) (x2 : Int32) (x3 : Int32) (s0 : Int32) (σ : aH) : Lq G d M_191 (67, [some (.ref 33), some (.int x1), some (.int x2), some (.int x3)], [.int s0], σ) = some (.inl (some (.int s0)), σ) :=
  (aUn_eq (tkd G.1 G.2) tmi (aRun (tkd G.1 G.2) tmi tmt d) M_191 [] 1 (67, [some (.ref 33), some (.int x1), some (.int x2), some (.int x3)], [.int s0], σ)).trans rfl
set_option maxRecDepth 20000 in
theorem q_191_4098 (G : Nat × (Nat → Int32)) (d : Nat) (x1 : Int32) (x2 : Int32) (x3 : Int32) (σ : aH) : Lq G d M_191 (66, [some (.ref 33), some (.int x1), some (.int x2), some (.int x3)], [], σ) = Lq G d M_191 (67, [some (.ref 33), some (.int x1), some (.int x2), some (.int x3)], [.int x3], σ) :=
  (aUn_eq (tkd G.1 G.2) tmi (aRun (tkd G.1 G.2) tmi tmt d) M_191 [] 1 (66, [some (.ref 33), some (.int x1), some (.int x2), some (.int x3)], [], σ)).trans rfl
set_option maxRecDepth 20000 in
theorem q_190_4099 (G : Nat × (Nat → Int32)) (d : Nat) (x1 : Int32) (σ : aH) : Lq G d M_190 (0, [some (.ref 33), some (.int x1)], [], σ) = Lq G d M_190 (7, [some (.ref 33), some (.int x1)], [.int (1 : Int32), .int (σ.1 51 4)], σ) :=
  (aUn_eq (tkd G.1 G.2) tmi (aRun (tkd G.1 G.2) tmi tmt d) M_190 [] 5 (0, [some (.ref 33), some (.int x1)], [], σ)).trans rfl
set_option maxRecDepth 20000 in
theorem q_190_4100 (G : Nat × (Nat → Int32)) (d : Nat) (x1 : Int32) (s0 : Int32) (s1 : Int32) (σ : aH) : Lq G d M_190 (7, [some (.ref 33), some (.int x1)], [.int s0, .int s1], σ) = if s1 = s0 then Lq G d M_190 (10, [some (.ref 33), some (.int x1)], [], σ) else Lq G d M_190 (27, [some (.ref 33), some (.int x1)], [], σ) :=
  (aUn_eq (tkd G.1 G.2) tmi (aRun (tkd G.1 G.2) tmi tmt d) M_190 [] 1 (7, [some (.ref 33), some (.int x1)], [.int s0, .int s1], σ)).trans rfl
set_option maxRecDepth 20000 in
theorem q_190_4101 (G : Nat × (Nat → Int32)) (d : Nat) (x1 : Int32) (σ : aH) : Lq G d M_190 (10, [some (.ref 33), some (.int x1)], [], σ) = Lq G d M_190 (41, [some (.ref 33), some (.int x1)], [.int ((((6 : Int32) * (σ.1 50 5)) / (100 : Int32)) - (3 : Int32))], σ) :=
  (aUn_eq (tkd G.1 G.2) tmi (aRun (tkd G.1 G.2) tmi tmt d) M_190 [] 11 (10, [some (.ref 33), some (.int x1)], [], σ)).trans rfl
set_option maxRecDepth 20000 in
theorem q_190_4102 (G : Nat × (Nat → Int32)) (d : Nat) (x1 : Int32) (s0 : Int32) (σ : aH) : Lq G d M_190 (41, [some (.ref 33), some (.int x1)], [.int s0], σ) = some (.inl (some (.int s0)), σ) :=
  (aUn_eq (tkd G.1 G.2) tmi (aRun (tkd G.1 G.2) tmi tmt d) M_190 [] 1 (41, [some (.ref 33), some (.int x1)], [.int s0], σ)).trans rfl
set_option maxRecDepth 20000 in
theorem q_190_4103 (G : Nat × (Nat → Int32)) (d : Nat) (x1 : Int32) (σ : aH) : Lq G d M_190 (27, [some (.ref 33), some (.int x1)], [], σ) = Lq G d M_190 (31, [some (.ref 33), some (.int x1)], [.int x1, .ref 33, .int (6 : Int32)], σ) :=
  (aUn_eq (tkd G.1 G.2) tmi (aRun (tkd G.1 G.2) tmi tmt d) M_190 [] 3 (27, [some (.ref 33), some (.int x1)], [], σ)).trans rfl
set_option maxRecDepth 20000 in
theorem q_190_4104 (G : Nat × (Nat → Int32)) (d : Nat) (x1 : Int32) (s0 : Int32) (s2 : Int32) (σ : aH) : Lq G d M_190 (31, [some (.ref 33), some (.int x1)], [.int s0, .ref 33, .int s2], σ) = aCI (Rn G d 179 [.ref 33, .int s0] σ) fun v2 σ1 => Lq G d M_190 (34, [some (.ref 33), some (.int x1)], [.int v2, .int s2], σ1) :=
  (aUn_eq (tkd G.1 G.2) tmi (aRun (tkd G.1 G.2) tmi tmt d) M_190 [] 1 (31, [some (.ref 33), some (.int x1)], [.int s0, .ref 33, .int s2], σ)).trans rfl
set_option maxRecDepth 20000 in
theorem q_190_4105 (G : Nat × (Nat → Int32)) (d : Nat) (x1 : Int32) (s0 : Int32) (s1 : Int32) (σ : aH) : Lq G d M_190 (34, [some (.ref 33), some (.int x1)], [.int s0, .int s1], σ) = Lq G d M_190 (41, [some (.ref 33), some (.int x1)], [.int (((s1 * s0) / (1000000 : Int32)) - (3 : Int32))], σ) :=
  (aUn_eq (tkd G.1 G.2) tmi (aRun (tkd G.1 G.2) tmi tmt d) M_190 [] 5 (34, [some (.ref 33), some (.int x1)], [.int s0, .int s1], σ)).trans rfl
set_option maxRecDepth 20000 in
theorem q_133_4106 (G : Nat × (Nat → Int32)) (d : Nat) (x1 : Int32) (x2 : Int32) (σ : aH) : Lq G d M_133 (0, [some (.ref 33), some (.int x1), some (.int x2), none, none, none], [], σ) = Lq G d M_133 (5, [some (.ref 33), none, some (.int x2), some (.int (0 : Int32)), some (.int x1), none], [], σ) :=
  (aUn_eq (tkd G.1 G.2) tmi (aRun (tkd G.1 G.2) tmi tmt d) M_133 [] 4 (0, [some (.ref 33), some (.int x1), some (.int x2), none, none, none], [], σ)).trans rfl
set_option maxRecDepth 20000 in
theorem q_133_4107 (G : Nat × (Nat → Int32)) (d : Nat) (x2 : Int32) (x3 : Int32) (x4 : Int32) (σ : aH) : Lq G d M_133 (5, [some (.ref 33), none, some (.int x2), some (.int x3), some (.int x4), none], [], σ) = Lq G d M_133 (11, [some (.ref 33), none, some (.int x2), some (.int x3), some (.int x4), none], [.int x4, .ref 38], σ) :=
  (aUn_eq (tkd G.1 G.2) tmi (aRun (tkd G.1 G.2) tmi tmt d) M_133 [] 3 (5, [some (.ref 33), none, some (.int x2), some (.int x3), some (.int x4), none], [], σ)).trans rfl
set_option maxRecDepth 20000 in
theorem q_133_4108 (G : Nat × (Nat → Int32)) (d : Nat) (x2 : Int32) (x3 : Int32) (x4 : Int32) (s0 : Int32) (σ : aH) : Lq G d M_133 (11, [some (.ref 33), none, some (.int x2), some (.int x3), some (.int x4), none], [.int s0, .ref 38], σ) = aIx (s0) 1200 fun j1 => Lq G d M_133 (12, [some (.ref 33), none, some (.int x2), some (.int x3), some (.int x4), none], [.int (σ.1 38 j1)], σ) :=
  (aUn_eq (tkd G.1 G.2) tmi (aRun (tkd G.1 G.2) tmi tmt d) M_133 [] 1 (11, [some (.ref 33), none, some (.int x2), some (.int x3), some (.int x4), none], [.int s0, .ref 38], σ)).trans rfl
set_option maxRecDepth 20000 in
theorem q_133_4109 (G : Nat × (Nat → Int32)) (d : Nat) (x2 : Int32) (x3 : Int32) (x4 : Int32) (s0 : Int32) (σ : aH) : Lq G d M_133 (12, [some (.ref 33), none, some (.int x2), some (.int x3), some (.int x4), none], [.int s0], σ) = if s0 = 0 then Lq G d M_133 (148, [some (.ref 33), none, some (.int x2), some (.int x3), some (.int x4), none], [], σ) else Lq G d M_133 (15, [some (.ref 33), none, some (.int x2), some (.int x3), some (.int x4), none], [], σ) :=
  (aUn_eq (tkd G.1 G.2) tmi (aRun (tkd G.1 G.2) tmi tmt d) M_133 [] 1 (12, [some (.ref 33), none, some (.int x2), some (.int x3), some (.int x4), none], [.int s0], σ)).trans rfl
set_option maxRecDepth 20000 in
theorem q_133_4110 (G : Nat × (Nat → Int32)) (d : Nat) (x2 : Int32) (x3 : Int32) (x4 : Int32) (σ : aH) : Lq G d M_133 (148, [some (.ref 33), none, some (.int x2), some (.int x3), some (.int x4), none], [], σ) = Lq G d M_133 (154, [some (.ref 33), none, some (.int x2), some (.int x3), some (.int x4), none], [.int (σ.1 55 0)], σ) :=
  (aUn_eq (tkd G.1 G.2) tmi (aRun (tkd G.1 G.2) tmi tmt d) M_133 [] 4 (148, [some (.ref 33), none, some (.int x2), some (.int x3), some (.int x4), none], [], σ)).trans rfl
set_option maxRecDepth 20000 in
theorem q_133_4111 (G : Nat × (Nat → Int32)) (d : Nat) (x2 : Int32) (x3 : Int32) (x4 : Int32) (s0 : Int32) (σ : aH) : Lq G d M_133 (154, [some (.ref 33), none, some (.int x2), some (.int x3), some (.int x4), none], [.int s0], σ) = some (.inl (some (.int s0)), σ) :=
  (aUn_eq (tkd G.1 G.2) tmi (aRun (tkd G.1 G.2) tmi tmt d) M_133 [] 1 (154, [some (.ref 33), none, some (.int x2), some (.int x3), some (.int x4), none], [.int s0], σ)).trans rfl
set_option maxRecDepth 20000 in
theorem q_133_4112 (G : Nat × (Nat → Int32)) (d : Nat) (x2 : Int32) (x3 : Int32) (x4 : Int32) (σ : aH) : Lq G d M_133 (15, [some (.ref 33), none, some (.int x2), some (.int x3), some (.int x4), none], [], σ) = Lq G d M_133 (21, [some (.ref 33), none, some (.int x2), some (.int x3), some (.int x4), none], [.int x4, .ref 38], σ) :=
  (aUn_eq (tkd G.1 G.2) tmi (aRun (tkd G.1 G.2) tmi tmt d) M_133 [] 3 (15, [some (.ref 33), none, some (.int x2), some (.int x3), some (.int x4), none], [], σ)).trans rfl
set_option maxRecDepth 20000 in
theorem q_133_4113 (G : Nat × (Nat → Int32)) (d : Nat) (x2 : Int32) (x3 : Int32) (x4 : Int32) (s0 : Int32) (σ : aH) : Lq G d M_133 (21, [some (.ref 33), none, some (.int x2), some (.int x3), some (.int x4), none], [.int s0, .ref 38], σ) = aIx (s0) 1200 fun j1 => Lq G d M_133 (22, [some (.ref 33), none, some (.int x2), some (.int x3), some (.int x4), none], [.int (σ.1 38 j1)], σ) :=
  (aUn_eq (tkd G.1 G.2) tmi (aRun (tkd G.1 G.2) tmi tmt d) M_133 [] 1 (21, [some (.ref 33), none, some (.int x2), some (.int x3), some (.int x4), none], [.int s0, .ref 38], σ)).trans rfl
set_option maxRecDepth 20000 in
theorem q_133_4114 (G : Nat × (Nat → Int32)) (d : Nat) (x2 : Int32) (x3 : Int32) (x4 : Int32) (s0 : Int32) (σ : aH) : Lq G d M_133 (22, [some (.ref 33), none, some (.int x2), some (.int x3), some (.int x4), none], [.int s0], σ) = Lq G d M_133 (27, [some (.ref 33), none, some (.int x2), some (.int x3), some (.int (x4 + (1 : Int32))), some (.int s0)], [], σ) :=
  (aUn_eq (tkd G.1 G.2) tmi (aRun (tkd G.1 G.2) tmi tmt d) M_133 [] 2 (22, [some (.ref 33), none, some (.int x2), some (.int x3), some (.int x4), none], [.int s0], σ)).trans rfl
set_option maxRecDepth 20000 in
theorem q_133_4115 (G : Nat × (Nat → Int32)) (d : Nat) (x2 : Int32) (x3 : Int32) (x4 : Int32) (x5 : Int32) (σ : aH) : Lq G d M_133 (27, [some (.ref 33), none, some (.int x2), some (.int x3), some (.int x4), some (.int x5)], [], σ) = Lq G d M_133 (30, [some (.ref 33), none, some (.int x2), some (.int x3), some (.int x4), some (.int x5)], [.int (1 : Int32), .int x5], σ) :=
  (aUn_eq (tkd G.1 G.2) tmi (aRun (tkd G.1 G.2) tmi tmt d) M_133 [] 2 (27, [some (.ref 33), none, some (.int x2), some (.int x3), some (.int x4), some (.int x5)], [], σ)).trans rfl
set_option maxRecDepth 20000 in
theorem q_133_4116 (G : Nat × (Nat → Int32)) (d : Nat) (x2 : Int32) (x3 : Int32) (x4 : Int32) (x5 : Int32) (s0 : Int32) (s1 : Int32) (σ : aH) : Lq G d M_133 (30, [some (.ref 33), none, some (.int x2), some (.int x3), some (.int x4), some (.int x5)], [.int s0, .int s1], σ) = if s1 = s0 then Lq G d M_133 (39, [some (.ref 33), none, some (.int x2), some (.int x3), some (.int x4), some (.int x5)], [], σ) else Lq G d M_133 (33, [some (.ref 33), none, some (.int x2), some (.int x3), some (.int x4), some (.int x5)], [], σ) :=
  (aUn_eq (tkd G.1 G.2) tmi (aRun (tkd G.1 G.2) tmi tmt d) M_133 [] 1 (30, [some (.ref 33), none, some (.int x2), some (.int x3), some (.int x4), some (.int x5)], [.int s0, .int s1], σ)).trans rfl
set_option maxRecDepth 20000 in
theorem q_133_4117 (G : Nat × (Nat → Int32)) (d : Nat) (x2 : Int32) (x3 : Int32) (x4 : Int32) (x5 : Int32) (σ : aH) : Lq G d M_133 (39, [some (.ref 33), none, some (.int x2), some (.int x3), some (.int x4), some (.int x5)], [], σ) = Lq G d M_133 (47, [some (.ref 33), none, some (.int x2), some (.int x3), some (.int x4), some (.int x5)], [.int (1 : Int32), .int x5, .int x3, .ref 55], σ) :=
  (aUn_eq (tkd G.1 G.2) tmi (aRun (tkd G.1 G.2) tmi tmt d) M_133 [] 5 (39, [some (.ref 33), none, some (.int x2), some (.int x3), some (.int x4), some (.int x5)], [], σ)).trans rfl
set_option maxRecDepth 20000 in
theorem q_133_4118 (G : Nat × (Nat → Int32)) (d : Nat) (x2 : Int32) (x3 : Int32) (x4 : Int32) (x5 : Int32) (s0 : Int32) (s1 : Int32) (s2 : Int32) (σ : aH) : Lq G d M_133 (47, [some (.ref 33), none, some (.int x2), some (.int x3), some (.int x4), some (.int x5)], [.int s0, .int s1, .int s2, .ref 55], σ) = if s1 = s0 then Lq G d M_133 (50, [some (.ref 33), none, some (.int x2), some (.int x3), some (.int x4), some (.int x5)], [.int s2, .ref 55], σ) else Lq G d M_133 (60, [some (.ref 33), none, some (.int x2), some (.int x3), some (.int x4), some (.int x5)], [.int s2, .ref 55], σ) :=
  (aUn_eq (tkd G.1 G.2) tmi (aRun (tkd G.1 G.2) tmi tmt d) M_133 [] 1 (47, [some (.ref 33), none, some (.int x2), some (.int x3), some (.int x4), some (.int x5)], [.int s0, .int s1, .int s2, .ref 55], σ)).trans rfl
set_option maxRecDepth 20000 in
theorem q_133_4119 (G : Nat × (Nat → Int32)) (d : Nat) (x2 : Int32) (x3 : Int32) (x4 : Int32) (x5 : Int32) (s0 : Int32) (σ : aH) : Lq G d M_133 (50, [some (.ref 33), none, some (.int x2), some (.int x3), some (.int x4), some (.int x5)], [.int s0, .ref 55], σ) = Lq G d M_133 (56, [some (.ref 33), none, some (.int x2), some (.int x3), some (.int x4), some (.int x5)], [.int x4, .ref 38, .int s0, .ref 55], σ) :=
  (aUn_eq (tkd G.1 G.2) tmi (aRun (tkd G.1 G.2) tmi tmt d) M_133 [] 3 (50, [some (.ref 33), none, some (.int x2), some (.int x3), some (.int x4), some (.int x5)], [.int s0, .ref 55], σ)).trans rfl
set_option maxRecDepth 20000 in
theorem q_133_4120 (G : Nat × (Nat → Int32)) (d : Nat) (x2 : Int32) (x3 : Int32) (x4 : Int32) (x5 : Int32) (s0 : Int32) (s2 : Int32) (σ : aH) : Lq G d M_133 (56, [some (.ref 33), none, some (.int x2), some (.int x3), some (.int x4), some (.int x5)], [.int s0, .ref 38, .int s2, .ref 55], σ) = aIx (s0) 1200 fun j1 => Lq G d M_133 (57, [some (.ref 33), none, some (.int x2), some (.int x3), some (.int x4), some (.int x5)], [.int (σ.1 38 j1), .int s2, .ref 55], σ) :=
  (aUn_eq (tkd G.1 G.2) tmi (aRun (tkd G.1 G.2) tmi tmt d) M_133 [] 1 (56, [some (.ref 33), none, some (.int x2), some (.int x3), some (.int x4), some (.int x5)], [.int s0, .ref 38, .int s2, .ref 55], σ)).trans rfl
set_option maxRecDepth 20000 in
theorem q_133_4121 (G : Nat × (Nat → Int32)) (d : Nat) (x2 : Int32) (x3 : Int32) (x4 : Int32) (x5 : Int32) (s0 : Int32) (s1 : Int32) (σ : aH) : Lq G d M_133 (57, [some (.ref 33), none, some (.int x2), some (.int x3), some (.int x4), some (.int x5)], [.int s0, .int s1, .ref 55], σ) = Lq G d M_133 (72, [some (.ref 33), none, some (.int x2), some (.int x3), some (.int x4), some (.int x5)], [.int s0, .int s1, .ref 55], σ) :=
  (aUn_eq (tkd G.1 G.2) tmi (aRun (tkd G.1 G.2) tmi tmt d) M_133 [] 1 (57, [some (.ref 33), none, some (.int x2), some (.int x3), some (.int x4), some (.int x5)], [.int s0, .int s1, .ref 55], σ)).trans rfl
set_option maxRecDepth 20000 in
theorem q_133_4122 (G : Nat × (Nat → Int32)) (d : Nat) (x2 : Int32) (x3 : Int32) (x4 : Int32) (x5 : Int32) (s0 : Int32) (s1 : Int32) (σ : aH) : Lq G d M_133 (72, [some (.ref 33), none, some (.int x2), some (.int x3), some (.int x4), some (.int x5)], [.int s0, .int s1, .ref 55], σ) = aIx (s1) 720 fun j1 => Lq G d M_133 (73, [some (.ref 33), none, some (.int x2), some (.int x3), some (.int x4), some (.int x5)], [], (aSI σ 55 j1 s0)) :=
  (aUn_eq (tkd G.1 G.2) tmi (aRun (tkd G.1 G.2) tmi tmt d) M_133 [] 1 (72, [some (.ref 33), none, some (.int x2), some (.int x3), some (.int x4), some (.int x5)], [.int s0, .int s1, .ref 55], σ)).trans rfl
set_option maxRecDepth 20000 in
theorem q_133_4123 (G : Nat × (Nat → Int32)) (d : Nat) (x2 : Int32) (x3 : Int32) (x4 : Int32) (x5 : Int32) (σ : aH) : Lq G d M_133 (73, [some (.ref 33), none, some (.int x2), some (.int x3), some (.int x4), some (.int x5)], [], σ) = Lq G d M_133 (79, [some (.ref 33), none, some (.int x2), some (.int (x3 + (1 : Int32))), some (.int (x4 + (1 : Int32))), some (.int x5)], [], σ) :=
  (aUn_eq (tkd G.1 G.2) tmi (aRun (tkd G.1 G.2) tmi tmt d) M_133 [] 2 (73, [some (.ref 33), none, some (.int x2), some (.int x3), some (.int x4), some (.int x5)], [], σ)).trans rfl
