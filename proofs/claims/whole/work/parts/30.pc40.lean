/-! ===== the methods in pieces, as equations (by wip/gen/emit_eqs2.py) ===== -/
set_option maxRecDepth 20000
theorem q_14_5932 (G : Nat × (Nat → Int32)) (d : Nat)  (σ : aH) : Lq G d M_14 (17, [some (.ref 78)], [], σ) = Lq G d M_14 (18, [some (.ref 78)], [.int (0 : Int32)], σ) :=
  (aUn_eq (tkd G.1 G.2) tmi (aRun (tkd G.1 G.2) tmi tmt d) M_14 [] 1 (17, [some (.ref 78)], [], σ)).trans rfl
theorem q_14_5933 (G : Nat × (Nat → Int32)) (d : Nat) (s0 : Int32) (σ : aH) : Lq G d M_14 (18, [some (.ref 78)], [.int s0], σ) = aNar .boolean (s0) (some (.inl (some (.int s0)), σ)) :=
  (aUn_eq (tkd G.1 G.2) tmi (aRun (tkd G.1 G.2) tmi tmt d) M_14 [] 1 (18, [some (.ref 78)], [.int s0], σ)).trans rfl
theorem q_14_5934 (G : Nat × (Nat → Int32)) (d : Nat)  (σ : aH) : Lq G d M_14 (6, [some (.ref 78)], [], σ) = Lq G d M_14 (10, [some (.ref 78)], [.int (0 : Int32)], σ) :=
  (aUn_eq (tkd G.1 G.2) tmi (aRun (tkd G.1 G.2) tmi tmt d) M_14 [] 2 (6, [some (.ref 78)], [], σ)).trans rfl
theorem q_14_5935 (G : Nat × (Nat → Int32)) (d : Nat) (s0 : Int32) (σ : aH) : Lq G d M_14 (10, [some (.ref 78)], [.int s0], σ) = if s0 = 0 then Lq G d M_14 (13, [some (.ref 78)], [], σ) else Lq G d M_14 (17, [some (.ref 78)], [], σ) :=
  (aUn_eq (tkd G.1 G.2) tmi (aRun (tkd G.1 G.2) tmi tmt d) M_14 [] 1 (10, [some (.ref 78)], [.int s0], σ)).trans rfl
theorem q_14_5936 (G : Nat × (Nat → Int32)) (d : Nat)  (σ : aH) : Lq G d M_14 (13, [some (.ref 78)], [], σ) = Lq G d M_14 (18, [some (.ref 78)], [.int (1 : Int32)], σ) :=
  (aUn_eq (tkd G.1 G.2) tmi (aRun (tkd G.1 G.2) tmi tmt d) M_14 [] 2 (13, [some (.ref 78)], [], σ)).trans rfl
theorem q_14_5937 (G : Nat × (Nat → Int32)) (d : Nat)  (σ : aH) : Lq G d M_14 (0, [some (.ref 80)], [], σ) = Lq G d M_14 (3, [some (.ref 80)], [.int (1 : Int32)], σ) :=
  (aUn_eq (tkd G.1 G.2) tmi (aRun (tkd G.1 G.2) tmi tmt d) M_14 [] 1 (0, [some (.ref 80)], [], σ)).trans rfl
theorem q_14_5938 (G : Nat × (Nat → Int32)) (d : Nat) (s0 : Int32) (σ : aH) : Lq G d M_14 (3, [some (.ref 80)], [.int s0], σ) = if s0 = 0 then Lq G d M_14 (17, [some (.ref 80)], [], σ) else Lq G d M_14 (6, [some (.ref 80)], [], σ) :=
  (aUn_eq (tkd G.1 G.2) tmi (aRun (tkd G.1 G.2) tmi tmt d) M_14 [] 1 (3, [some (.ref 80)], [.int s0], σ)).trans rfl
theorem q_14_5939 (G : Nat × (Nat → Int32)) (d : Nat)  (σ : aH) : Lq G d M_14 (17, [some (.ref 80)], [], σ) = Lq G d M_14 (18, [some (.ref 80)], [.int (0 : Int32)], σ) :=
  (aUn_eq (tkd G.1 G.2) tmi (aRun (tkd G.1 G.2) tmi tmt d) M_14 [] 1 (17, [some (.ref 80)], [], σ)).trans rfl
theorem q_14_5940 (G : Nat × (Nat → Int32)) (d : Nat) (s0 : Int32) (σ : aH) : Lq G d M_14 (18, [some (.ref 80)], [.int s0], σ) = aNar .boolean (s0) (some (.inl (some (.int s0)), σ)) :=
  (aUn_eq (tkd G.1 G.2) tmi (aRun (tkd G.1 G.2) tmi tmt d) M_14 [] 1 (18, [some (.ref 80)], [.int s0], σ)).trans rfl
theorem q_14_5941 (G : Nat × (Nat → Int32)) (d : Nat)  (σ : aH) : Lq G d M_14 (6, [some (.ref 80)], [], σ) = Lq G d M_14 (10, [some (.ref 80)], [.int (0 : Int32)], σ) :=
  (aUn_eq (tkd G.1 G.2) tmi (aRun (tkd G.1 G.2) tmi tmt d) M_14 [] 2 (6, [some (.ref 80)], [], σ)).trans rfl
theorem q_14_5942 (G : Nat × (Nat → Int32)) (d : Nat) (s0 : Int32) (σ : aH) : Lq G d M_14 (10, [some (.ref 80)], [.int s0], σ) = if s0 = 0 then Lq G d M_14 (13, [some (.ref 80)], [], σ) else Lq G d M_14 (17, [some (.ref 80)], [], σ) :=
  (aUn_eq (tkd G.1 G.2) tmi (aRun (tkd G.1 G.2) tmi tmt d) M_14 [] 1 (10, [some (.ref 80)], [.int s0], σ)).trans rfl
theorem q_14_5943 (G : Nat × (Nat → Int32)) (d : Nat)  (σ : aH) : Lq G d M_14 (13, [some (.ref 80)], [], σ) = Lq G d M_14 (18, [some (.ref 80)], [.int (1 : Int32)], σ) :=
  (aUn_eq (tkd G.1 G.2) tmi (aRun (tkd G.1 G.2) tmi tmt d) M_14 [] 2 (13, [some (.ref 80)], [], σ)).trans rfl
theorem q_14_5944 (G : Nat × (Nat → Int32)) (d : Nat)  (σ : aH) : Lq G d M_14 (0, [some (.ref 82)], [], σ) = Lq G d M_14 (3, [some (.ref 82)], [.int (1 : Int32)], σ) :=
  (aUn_eq (tkd G.1 G.2) tmi (aRun (tkd G.1 G.2) tmi tmt d) M_14 [] 1 (0, [some (.ref 82)], [], σ)).trans rfl
theorem q_14_5945 (G : Nat × (Nat → Int32)) (d : Nat) (s0 : Int32) (σ : aH) : Lq G d M_14 (3, [some (.ref 82)], [.int s0], σ) = if s0 = 0 then Lq G d M_14 (17, [some (.ref 82)], [], σ) else Lq G d M_14 (6, [some (.ref 82)], [], σ) :=
  (aUn_eq (tkd G.1 G.2) tmi (aRun (tkd G.1 G.2) tmi tmt d) M_14 [] 1 (3, [some (.ref 82)], [.int s0], σ)).trans rfl
theorem q_14_5946 (G : Nat × (Nat → Int32)) (d : Nat)  (σ : aH) : Lq G d M_14 (17, [some (.ref 82)], [], σ) = Lq G d M_14 (18, [some (.ref 82)], [.int (0 : Int32)], σ) :=
  (aUn_eq (tkd G.1 G.2) tmi (aRun (tkd G.1 G.2) tmi tmt d) M_14 [] 1 (17, [some (.ref 82)], [], σ)).trans rfl
theorem q_14_5947 (G : Nat × (Nat → Int32)) (d : Nat) (s0 : Int32) (σ : aH) : Lq G d M_14 (18, [some (.ref 82)], [.int s0], σ) = aNar .boolean (s0) (some (.inl (some (.int s0)), σ)) :=
  (aUn_eq (tkd G.1 G.2) tmi (aRun (tkd G.1 G.2) tmi tmt d) M_14 [] 1 (18, [some (.ref 82)], [.int s0], σ)).trans rfl
theorem q_14_5948 (G : Nat × (Nat → Int32)) (d : Nat)  (σ : aH) : Lq G d M_14 (6, [some (.ref 82)], [], σ) = Lq G d M_14 (10, [some (.ref 82)], [.int (0 : Int32)], σ) :=
  (aUn_eq (tkd G.1 G.2) tmi (aRun (tkd G.1 G.2) tmi tmt d) M_14 [] 2 (6, [some (.ref 82)], [], σ)).trans rfl
theorem q_14_5949 (G : Nat × (Nat → Int32)) (d : Nat) (s0 : Int32) (σ : aH) : Lq G d M_14 (10, [some (.ref 82)], [.int s0], σ) = if s0 = 0 then Lq G d M_14 (13, [some (.ref 82)], [], σ) else Lq G d M_14 (17, [some (.ref 82)], [], σ) :=
  (aUn_eq (tkd G.1 G.2) tmi (aRun (tkd G.1 G.2) tmi tmt d) M_14 [] 1 (10, [some (.ref 82)], [.int s0], σ)).trans rfl
theorem q_14_5950 (G : Nat × (Nat → Int32)) (d : Nat)  (σ : aH) : Lq G d M_14 (13, [some (.ref 82)], [], σ) = Lq G d M_14 (18, [some (.ref 82)], [.int (1 : Int32)], σ) :=
  (aUn_eq (tkd G.1 G.2) tmi (aRun (tkd G.1 G.2) tmi tmt d) M_14 [] 2 (13, [some (.ref 82)], [], σ)).trans rfl
theorem q_14_5951 (G : Nat × (Nat → Int32)) (d : Nat)  (σ : aH) : Lq G d M_14 (0, [some (.ref 84)], [], σ) = Lq G d M_14 (3, [some (.ref 84)], [.int (1 : Int32)], σ) :=
  (aUn_eq (tkd G.1 G.2) tmi (aRun (tkd G.1 G.2) tmi tmt d) M_14 [] 1 (0, [some (.ref 84)], [], σ)).trans rfl
theorem q_14_5952 (G : Nat × (Nat → Int32)) (d : Nat) (s0 : Int32) (σ : aH) : Lq G d M_14 (3, [some (.ref 84)], [.int s0], σ) = if s0 = 0 then Lq G d M_14 (17, [some (.ref 84)], [], σ) else Lq G d M_14 (6, [some (.ref 84)], [], σ) :=
  (aUn_eq (tkd G.1 G.2) tmi (aRun (tkd G.1 G.2) tmi tmt d) M_14 [] 1 (3, [some (.ref 84)], [.int s0], σ)).trans rfl
theorem q_14_5953 (G : Nat × (Nat → Int32)) (d : Nat)  (σ : aH) : Lq G d M_14 (17, [some (.ref 84)], [], σ) = Lq G d M_14 (18, [some (.ref 84)], [.int (0 : Int32)], σ) :=
  (aUn_eq (tkd G.1 G.2) tmi (aRun (tkd G.1 G.2) tmi tmt d) M_14 [] 1 (17, [some (.ref 84)], [], σ)).trans rfl
theorem q_14_5954 (G : Nat × (Nat → Int32)) (d : Nat) (s0 : Int32) (σ : aH) : Lq G d M_14 (18, [some (.ref 84)], [.int s0], σ) = aNar .boolean (s0) (some (.inl (some (.int s0)), σ)) :=
  (aUn_eq (tkd G.1 G.2) tmi (aRun (tkd G.1 G.2) tmi tmt d) M_14 [] 1 (18, [some (.ref 84)], [.int s0], σ)).trans rfl
theorem q_14_5955 (G : Nat × (Nat → Int32)) (d : Nat)  (σ : aH) : Lq G d M_14 (6, [some (.ref 84)], [], σ) = Lq G d M_14 (10, [some (.ref 84)], [.int (0 : Int32)], σ) :=
  (aUn_eq (tkd G.1 G.2) tmi (aRun (tkd G.1 G.2) tmi tmt d) M_14 [] 2 (6, [some (.ref 84)], [], σ)).trans rfl
theorem q_14_5956 (G : Nat × (Nat → Int32)) (d : Nat) (s0 : Int32) (σ : aH) : Lq G d M_14 (10, [some (.ref 84)], [.int s0], σ) = if s0 = 0 then Lq G d M_14 (13, [some (.ref 84)], [], σ) else Lq G d M_14 (17, [some (.ref 84)], [], σ) :=
  (aUn_eq (tkd G.1 G.2) tmi (aRun (tkd G.1 G.2) tmi tmt d) M_14 [] 1 (10, [some (.ref 84)], [.int s0], σ)).trans rfl
theorem q_14_5957 (G : Nat × (Nat → Int32)) (d : Nat)  (σ : aH) : Lq G d M_14 (13, [some (.ref 84)], [], σ) = Lq G d M_14 (18, [some (.ref 84)], [.int (1 : Int32)], σ) :=
  (aUn_eq (tkd G.1 G.2) tmi (aRun (tkd G.1 G.2) tmi tmt d) M_14 [] 2 (13, [some (.ref 84)], [], σ)).trans rfl
theorem q_14_5958 (G : Nat × (Nat → Int32)) (d : Nat)  (σ : aH) : Lq G d M_14 (0, [some (.ref 86)], [], σ) = Lq G d M_14 (3, [some (.ref 86)], [.int (1 : Int32)], σ) :=
  (aUn_eq (tkd G.1 G.2) tmi (aRun (tkd G.1 G.2) tmi tmt d) M_14 [] 1 (0, [some (.ref 86)], [], σ)).trans rfl
theorem q_14_5959 (G : Nat × (Nat → Int32)) (d : Nat) (s0 : Int32) (σ : aH) : Lq G d M_14 (3, [some (.ref 86)], [.int s0], σ) = if s0 = 0 then Lq G d M_14 (17, [some (.ref 86)], [], σ) else Lq G d M_14 (6, [some (.ref 86)], [], σ) :=
  (aUn_eq (tkd G.1 G.2) tmi (aRun (tkd G.1 G.2) tmi tmt d) M_14 [] 1 (3, [some (.ref 86)], [.int s0], σ)).trans rfl
theorem q_14_5960 (G : Nat × (Nat → Int32)) (d : Nat)  (σ : aH) : Lq G d M_14 (17, [some (.ref 86)], [], σ) = Lq G d M_14 (18, [some (.ref 86)], [.int (0 : Int32)], σ) :=
  (aUn_eq (tkd G.1 G.2) tmi (aRun (tkd G.1 G.2) tmi tmt d) M_14 [] 1 (17, [some (.ref 86)], [], σ)).trans rfl
theorem q_14_5961 (G : Nat × (Nat → Int32)) (d : Nat) (s0 : Int32) (σ : aH) : Lq G d M_14 (18, [some (.ref 86)], [.int s0], σ) = aNar .boolean (s0) (some (.inl (some (.int s0)), σ)) :=
  (aUn_eq (tkd G.1 G.2) tmi (aRun (tkd G.1 G.2) tmi tmt d) M_14 [] 1 (18, [some (.ref 86)], [.int s0], σ)).trans rfl
theorem q_14_5962 (G : Nat × (Nat → Int32)) (d : Nat)  (σ : aH) : Lq G d M_14 (6, [some (.ref 86)], [], σ) = Lq G d M_14 (10, [some (.ref 86)], [.int (0 : Int32)], σ) :=
  (aUn_eq (tkd G.1 G.2) tmi (aRun (tkd G.1 G.2) tmi tmt d) M_14 [] 2 (6, [some (.ref 86)], [], σ)).trans rfl
theorem q_14_5963 (G : Nat × (Nat → Int32)) (d : Nat) (s0 : Int32) (σ : aH) : Lq G d M_14 (10, [some (.ref 86)], [.int s0], σ) = if s0 = 0 then Lq G d M_14 (13, [some (.ref 86)], [], σ) else Lq G d M_14 (17, [some (.ref 86)], [], σ) :=
  (aUn_eq (tkd G.1 G.2) tmi (aRun (tkd G.1 G.2) tmi tmt d) M_14 [] 1 (10, [some (.ref 86)], [.int s0], σ)).trans rfl
theorem q_14_5964 (G : Nat × (Nat → Int32)) (d : Nat)  (σ : aH) : Lq G d M_14 (13, [some (.ref 86)], [], σ) = Lq G d M_14 (18, [some (.ref 86)], [.int (1 : Int32)], σ) :=
  (aUn_eq (tkd G.1 G.2) tmi (aRun (tkd G.1 G.2) tmi tmt d) M_14 [] 2 (13, [some (.ref 86)], [], σ)).trans rfl
theorem q_14_5965 (G : Nat × (Nat → Int32)) (d : Nat)  (σ : aH) : Lq G d M_14 (0, [some (.ref 88)], [], σ) = Lq G d M_14 (3, [some (.ref 88)], [.int (1 : Int32)], σ) :=
  (aUn_eq (tkd G.1 G.2) tmi (aRun (tkd G.1 G.2) tmi tmt d) M_14 [] 1 (0, [some (.ref 88)], [], σ)).trans rfl
theorem q_14_5966 (G : Nat × (Nat → Int32)) (d : Nat) (s0 : Int32) (σ : aH) : Lq G d M_14 (3, [some (.ref 88)], [.int s0], σ) = if s0 = 0 then Lq G d M_14 (17, [some (.ref 88)], [], σ) else Lq G d M_14 (6, [some (.ref 88)], [], σ) :=
  (aUn_eq (tkd G.1 G.2) tmi (aRun (tkd G.1 G.2) tmi tmt d) M_14 [] 1 (3, [some (.ref 88)], [.int s0], σ)).trans rfl
theorem q_14_5967 (G : Nat × (Nat → Int32)) (d : Nat)  (σ : aH) : Lq G d M_14 (17, [some (.ref 88)], [], σ) = Lq G d M_14 (18, [some (.ref 88)], [.int (0 : Int32)], σ) :=
  (aUn_eq (tkd G.1 G.2) tmi (aRun (tkd G.1 G.2) tmi tmt d) M_14 [] 1 (17, [some (.ref 88)], [], σ)).trans rfl
theorem q_14_5968 (G : Nat × (Nat → Int32)) (d : Nat) (s0 : Int32) (σ : aH) : Lq G d M_14 (18, [some (.ref 88)], [.int s0], σ) = aNar .boolean (s0) (some (.inl (some (.int s0)), σ)) :=
  (aUn_eq (tkd G.1 G.2) tmi (aRun (tkd G.1 G.2) tmi tmt d) M_14 [] 1 (18, [some (.ref 88)], [.int s0], σ)).trans rfl
theorem q_14_5969 (G : Nat × (Nat → Int32)) (d : Nat)  (σ : aH) : Lq G d M_14 (6, [some (.ref 88)], [], σ) = Lq G d M_14 (10, [some (.ref 88)], [.int (0 : Int32)], σ) :=
  (aUn_eq (tkd G.1 G.2) tmi (aRun (tkd G.1 G.2) tmi tmt d) M_14 [] 2 (6, [some (.ref 88)], [], σ)).trans rfl
theorem q_14_5970 (G : Nat × (Nat → Int32)) (d : Nat) (s0 : Int32) (σ : aH) : Lq G d M_14 (10, [some (.ref 88)], [.int s0], σ) = if s0 = 0 then Lq G d M_14 (13, [some (.ref 88)], [], σ) else Lq G d M_14 (17, [some (.ref 88)], [], σ) :=
  (aUn_eq (tkd G.1 G.2) tmi (aRun (tkd G.1 G.2) tmi tmt d) M_14 [] 1 (10, [some (.ref 88)], [.int s0], σ)).trans rfl
theorem q_14_5971 (G : Nat × (Nat → Int32)) (d : Nat)  (σ : aH) : Lq G d M_14 (13, [some (.ref 88)], [], σ) = Lq G d M_14 (18, [some (.ref 88)], [.int (1 : Int32)], σ) :=
  (aUn_eq (tkd G.1 G.2) tmi (aRun (tkd G.1 G.2) tmi tmt d) M_14 [] 2 (13, [some (.ref 88)], [], σ)).trans rfl
theorem q_14_5972 (G : Nat × (Nat → Int32)) (d : Nat)  (σ : aH) : Lq G d M_14 (0, [some (.ref 90)], [], σ) = Lq G d M_14 (3, [some (.ref 90)], [.int (1 : Int32)], σ) :=
  (aUn_eq (tkd G.1 G.2) tmi (aRun (tkd G.1 G.2) tmi tmt d) M_14 [] 1 (0, [some (.ref 90)], [], σ)).trans rfl
theorem q_14_5973 (G : Nat × (Nat → Int32)) (d : Nat) (s0 : Int32) (σ : aH) : Lq G d M_14 (3, [some (.ref 90)], [.int s0], σ) = if s0 = 0 then Lq G d M_14 (17, [some (.ref 90)], [], σ) else Lq G d M_14 (6, [some (.ref 90)], [], σ) :=
  (aUn_eq (tkd G.1 G.2) tmi (aRun (tkd G.1 G.2) tmi tmt d) M_14 [] 1 (3, [some (.ref 90)], [.int s0], σ)).trans rfl
theorem q_14_5974 (G : Nat × (Nat → Int32)) (d : Nat)  (σ : aH) : Lq G d M_14 (17, [some (.ref 90)], [], σ) = Lq G d M_14 (18, [some (.ref 90)], [.int (0 : Int32)], σ) :=
  (aUn_eq (tkd G.1 G.2) tmi (aRun (tkd G.1 G.2) tmi tmt d) M_14 [] 1 (17, [some (.ref 90)], [], σ)).trans rfl
theorem q_14_5975 (G : Nat × (Nat → Int32)) (d : Nat) (s0 : Int32) (σ : aH) : Lq G d M_14 (18, [some (.ref 90)], [.int s0], σ) = aNar .boolean (s0) (some (.inl (some (.int s0)), σ)) :=
  (aUn_eq (tkd G.1 G.2) tmi (aRun (tkd G.1 G.2) tmi tmt d) M_14 [] 1 (18, [some (.ref 90)], [.int s0], σ)).trans rfl
theorem q_14_5976 (G : Nat × (Nat → Int32)) (d : Nat)  (σ : aH) : Lq G d M_14 (6, [some (.ref 90)], [], σ) = Lq G d M_14 (10, [some (.ref 90)], [.int (0 : Int32)], σ) :=
  (aUn_eq (tkd G.1 G.2) tmi (aRun (tkd G.1 G.2) tmi tmt d) M_14 [] 2 (6, [some (.ref 90)], [], σ)).trans rfl
theorem q_14_5977 (G : Nat × (Nat → Int32)) (d : Nat) (s0 : Int32) (σ : aH) : Lq G d M_14 (10, [some (.ref 90)], [.int s0], σ) = if s0 = 0 then Lq G d M_14 (13, [some (.ref 90)], [], σ) else Lq G d M_14 (17, [some (.ref 90)], [], σ) :=
  (aUn_eq (tkd G.1 G.2) tmi (aRun (tkd G.1 G.2) tmi tmt d) M_14 [] 1 (10, [some (.ref 90)], [.int s0], σ)).trans rfl
theorem q_14_5978 (G : Nat × (Nat → Int32)) (d : Nat)  (σ : aH) : Lq G d M_14 (13, [some (.ref 90)], [], σ) = Lq G d M_14 (18, [some (.ref 90)], [.int (1 : Int32)], σ) :=
  (aUn_eq (tkd G.1 G.2) tmi (aRun (tkd G.1 G.2) tmi tmt d) M_14 [] 2 (13, [some (.ref 90)], [], σ)).trans rfl
theorem q_14_5979 (G : Nat × (Nat → Int32)) (d : Nat)  (σ : aH) : Lq G d M_14 (0, [some (.ref 92)], [], σ) = Lq G d M_14 (3, [some (.ref 92)], [.int (1 : Int32)], σ) :=
  (aUn_eq (tkd G.1 G.2) tmi (aRun (tkd G.1 G.2) tmi tmt d) M_14 [] 1 (0, [some (.ref 92)], [], σ)).trans rfl
theorem q_14_5980 (G : Nat × (Nat → Int32)) (d : Nat) (s0 : Int32) (σ : aH) : Lq G d M_14 (3, [some (.ref 92)], [.int s0], σ) = if s0 = 0 then Lq G d M_14 (17, [some (.ref 92)], [], σ) else Lq G d M_14 (6, [some (.ref 92)], [], σ) :=
  (aUn_eq (tkd G.1 G.2) tmi (aRun (tkd G.1 G.2) tmi tmt d) M_14 [] 1 (3, [some (.ref 92)], [.int s0], σ)).trans rfl
theorem q_14_5981 (G : Nat × (Nat → Int32)) (d : Nat)  (σ : aH) : Lq G d M_14 (17, [some (.ref 92)], [], σ) = Lq G d M_14 (18, [some (.ref 92)], [.int (0 : Int32)], σ) :=
  (aUn_eq (tkd G.1 G.2) tmi (aRun (tkd G.1 G.2) tmi tmt d) M_14 [] 1 (17, [some (.ref 92)], [], σ)).trans rfl
theorem q_14_5982 (G : Nat × (Nat → Int32)) (d : Nat) (s0 : Int32) (σ : aH) : Lq G d M_14 (18, [some (.ref 92)], [.int s0], σ) = aNar .boolean (s0) (some (.inl (some (.int s0)), σ)) :=
  (aUn_eq (tkd G.1 G.2) tmi (aRun (tkd G.1 G.2) tmi tmt d) M_14 [] 1 (18, [some (.ref 92)], [.int s0], σ)).trans rfl
theorem q_14_5983 (G : Nat × (Nat → Int32)) (d : Nat)  (σ : aH) : Lq G d M_14 (6, [some (.ref 92)], [], σ) = Lq G d M_14 (10, [some (.ref 92)], [.int (0 : Int32)], σ) :=
  (aUn_eq (tkd G.1 G.2) tmi (aRun (tkd G.1 G.2) tmi tmt d) M_14 [] 2 (6, [some (.ref 92)], [], σ)).trans rfl
theorem q_14_5984 (G : Nat × (Nat → Int32)) (d : Nat) (s0 : Int32) (σ : aH) : Lq G d M_14 (10, [some (.ref 92)], [.int s0], σ) = if s0 = 0 then Lq G d M_14 (13, [some (.ref 92)], [], σ) else Lq G d M_14 (17, [some (.ref 92)], [], σ) :=
  (aUn_eq (tkd G.1 G.2) tmi (aRun (tkd G.1 G.2) tmi tmt d) M_14 [] 1 (10, [some (.ref 92)], [.int s0], σ)).trans rfl
theorem q_14_5985 (G : Nat × (Nat → Int32)) (d : Nat)  (σ : aH) : Lq G d M_14 (13, [some (.ref 92)], [], σ) = Lq G d M_14 (18, [some (.ref 92)], [.int (1 : Int32)], σ) :=
  (aUn_eq (tkd G.1 G.2) tmi (aRun (tkd G.1 G.2) tmi tmt d) M_14 [] 2 (13, [some (.ref 92)], [], σ)).trans rfl
theorem q_14_5986 (G : Nat × (Nat → Int32)) (d : Nat)  (σ : aH) : Lq G d M_14 (0, [some (.ref 94)], [], σ) = Lq G d M_14 (3, [some (.ref 94)], [.int (1 : Int32)], σ) :=
  (aUn_eq (tkd G.1 G.2) tmi (aRun (tkd G.1 G.2) tmi tmt d) M_14 [] 1 (0, [some (.ref 94)], [], σ)).trans rfl
theorem q_14_5987 (G : Nat × (Nat → Int32)) (d : Nat) (s0 : Int32) (σ : aH) : Lq G d M_14 (3, [some (.ref 94)], [.int s0], σ) = if s0 = 0 then Lq G d M_14 (17, [some (.ref 94)], [], σ) else Lq G d M_14 (6, [some (.ref 94)], [], σ) :=
  (aUn_eq (tkd G.1 G.2) tmi (aRun (tkd G.1 G.2) tmi tmt d) M_14 [] 1 (3, [some (.ref 94)], [.int s0], σ)).trans rfl
theorem q_14_5988 (G : Nat × (Nat → Int32)) (d : Nat)  (σ : aH) : Lq G d M_14 (17, [some (.ref 94)], [], σ) = Lq G d M_14 (18, [some (.ref 94)], [.int (0 : Int32)], σ) :=
  (aUn_eq (tkd G.1 G.2) tmi (aRun (tkd G.1 G.2) tmi tmt d) M_14 [] 1 (17, [some (.ref 94)], [], σ)).trans rfl
theorem q_14_5989 (G : Nat × (Nat → Int32)) (d : Nat) (s0 : Int32) (σ : aH) : Lq G d M_14 (18, [some (.ref 94)], [.int s0], σ) = aNar .boolean (s0) (some (.inl (some (.int s0)), σ)) :=
  (aUn_eq (tkd G.1 G.2) tmi (aRun (tkd G.1 G.2) tmi tmt d) M_14 [] 1 (18, [some (.ref 94)], [.int s0], σ)).trans rfl
theorem q_14_5990 (G : Nat × (Nat → Int32)) (d : Nat)  (σ : aH) : Lq G d M_14 (6, [some (.ref 94)], [], σ) = Lq G d M_14 (10, [some (.ref 94)], [.int (0 : Int32)], σ) :=
  (aUn_eq (tkd G.1 G.2) tmi (aRun (tkd G.1 G.2) tmi tmt d) M_14 [] 2 (6, [some (.ref 94)], [], σ)).trans rfl
theorem q_14_5991 (G : Nat × (Nat → Int32)) (d : Nat) (s0 : Int32) (σ : aH) : Lq G d M_14 (10, [some (.ref 94)], [.int s0], σ) = if s0 = 0 then Lq G d M_14 (13, [some (.ref 94)], [], σ) else Lq G d M_14 (17, [some (.ref 94)], [], σ) :=
  (aUn_eq (tkd G.1 G.2) tmi (aRun (tkd G.1 G.2) tmi tmt d) M_14 [] 1 (10, [some (.ref 94)], [.int s0], σ)).trans rfl
theorem q_14_5992 (G : Nat × (Nat → Int32)) (d : Nat)  (σ : aH) : Lq G d M_14 (13, [some (.ref 94)], [], σ) = Lq G d M_14 (18, [some (.ref 94)], [.int (1 : Int32)], σ) :=
  (aUn_eq (tkd G.1 G.2) tmi (aRun (tkd G.1 G.2) tmi tmt d) M_14 [] 2 (13, [some (.ref 94)], [], σ)).trans rfl
theorem q_14_5993 (G : Nat × (Nat → Int32)) (d : Nat)  (σ : aH) : Lq G d M_14 (0, [some (.ref 96)], [], σ) = Lq G d M_14 (3, [some (.ref 96)], [.int (1 : Int32)], σ) :=
  (aUn_eq (tkd G.1 G.2) tmi (aRun (tkd G.1 G.2) tmi tmt d) M_14 [] 1 (0, [some (.ref 96)], [], σ)).trans rfl
theorem q_14_5994 (G : Nat × (Nat → Int32)) (d : Nat) (s0 : Int32) (σ : aH) : Lq G d M_14 (3, [some (.ref 96)], [.int s0], σ) = if s0 = 0 then Lq G d M_14 (17, [some (.ref 96)], [], σ) else Lq G d M_14 (6, [some (.ref 96)], [], σ) :=
  (aUn_eq (tkd G.1 G.2) tmi (aRun (tkd G.1 G.2) tmi tmt d) M_14 [] 1 (3, [some (.ref 96)], [.int s0], σ)).trans rfl
theorem q_14_5995 (G : Nat × (Nat → Int32)) (d : Nat)  (σ : aH) : Lq G d M_14 (17, [some (.ref 96)], [], σ) = Lq G d M_14 (18, [some (.ref 96)], [.int (0 : Int32)], σ) :=
  (aUn_eq (tkd G.1 G.2) tmi (aRun (tkd G.1 G.2) tmi tmt d) M_14 [] 1 (17, [some (.ref 96)], [], σ)).trans rfl
theorem q_14_5996 (G : Nat × (Nat → Int32)) (d : Nat) (s0 : Int32) (σ : aH) : Lq G d M_14 (18, [some (.ref 96)], [.int s0], σ) = aNar .boolean (s0) (some (.inl (some (.int s0)), σ)) :=
  (aUn_eq (tkd G.1 G.2) tmi (aRun (tkd G.1 G.2) tmi tmt d) M_14 [] 1 (18, [some (.ref 96)], [.int s0], σ)).trans rfl
theorem q_14_5997 (G : Nat × (Nat → Int32)) (d : Nat)  (σ : aH) : Lq G d M_14 (6, [some (.ref 96)], [], σ) = Lq G d M_14 (10, [some (.ref 96)], [.int (0 : Int32)], σ) :=
  (aUn_eq (tkd G.1 G.2) tmi (aRun (tkd G.1 G.2) tmi tmt d) M_14 [] 2 (6, [some (.ref 96)], [], σ)).trans rfl
theorem q_14_5998 (G : Nat × (Nat → Int32)) (d : Nat) (s0 : Int32) (σ : aH) : Lq G d M_14 (10, [some (.ref 96)], [.int s0], σ) = if s0 = 0 then Lq G d M_14 (13, [some (.ref 96)], [], σ) else Lq G d M_14 (17, [some (.ref 96)], [], σ) :=
  (aUn_eq (tkd G.1 G.2) tmi (aRun (tkd G.1 G.2) tmi tmt d) M_14 [] 1 (10, [some (.ref 96)], [.int s0], σ)).trans rfl
theorem q_14_5999 (G : Nat × (Nat → Int32)) (d : Nat)  (σ : aH) : Lq G d M_14 (13, [some (.ref 96)], [], σ) = Lq G d M_14 (18, [some (.ref 96)], [.int (1 : Int32)], σ) :=
  (aUn_eq (tkd G.1 G.2) tmi (aRun (tkd G.1 G.2) tmi tmt d) M_14 [] 2 (13, [some (.ref 96)], [], σ)).trans rfl
theorem q_14_6000 (G : Nat × (Nat → Int32)) (d : Nat)  (σ : aH) : Lq G d M_14 (0, [some (.ref 98)], [], σ) = Lq G d M_14 (3, [some (.ref 98)], [.int (1 : Int32)], σ) :=
  (aUn_eq (tkd G.1 G.2) tmi (aRun (tkd G.1 G.2) tmi tmt d) M_14 [] 1 (0, [some (.ref 98)], [], σ)).trans rfl
theorem q_14_6001 (G : Nat × (Nat → Int32)) (d : Nat) (s0 : Int32) (σ : aH) : Lq G d M_14 (3, [some (.ref 98)], [.int s0], σ) = if s0 = 0 then Lq G d M_14 (17, [some (.ref 98)], [], σ) else Lq G d M_14 (6, [some (.ref 98)], [], σ) :=
  (aUn_eq (tkd G.1 G.2) tmi (aRun (tkd G.1 G.2) tmi tmt d) M_14 [] 1 (3, [some (.ref 98)], [.int s0], σ)).trans rfl
theorem q_14_6002 (G : Nat × (Nat → Int32)) (d : Nat)  (σ : aH) : Lq G d M_14 (17, [some (.ref 98)], [], σ) = Lq G d M_14 (18, [some (.ref 98)], [.int (0 : Int32)], σ) :=
  (aUn_eq (tkd G.1 G.2) tmi (aRun (tkd G.1 G.2) tmi tmt d) M_14 [] 1 (17, [some (.ref 98)], [], σ)).trans rfl
theorem q_14_6003 (G : Nat × (Nat → Int32)) (d : Nat) (s0 : Int32) (σ : aH) : Lq G d M_14 (18, [some (.ref 98)], [.int s0], σ) = aNar .boolean (s0) (some (.inl (some (.int s0)), σ)) :=
  (aUn_eq (tkd G.1 G.2) tmi (aRun (tkd G.1 G.2) tmi tmt d) M_14 [] 1 (18, [some (.ref 98)], [.int s0], σ)).trans rfl
theorem q_14_6004 (G : Nat × (Nat → Int32)) (d : Nat)  (σ : aH) : Lq G d M_14 (6, [some (.ref 98)], [], σ) = Lq G d M_14 (10, [some (.ref 98)], [.int (0 : Int32)], σ) :=
  (aUn_eq (tkd G.1 G.2) tmi (aRun (tkd G.1 G.2) tmi tmt d) M_14 [] 2 (6, [some (.ref 98)], [], σ)).trans rfl
theorem q_14_6005 (G : Nat × (Nat → Int32)) (d : Nat) (s0 : Int32) (σ : aH) : Lq G d M_14 (10, [some (.ref 98)], [.int s0], σ) = if s0 = 0 then Lq G d M_14 (13, [some (.ref 98)], [], σ) else Lq G d M_14 (17, [some (.ref 98)], [], σ) :=
  (aUn_eq (tkd G.1 G.2) tmi (aRun (tkd G.1 G.2) tmi tmt d) M_14 [] 1 (10, [some (.ref 98)], [.int s0], σ)).trans rfl
theorem q_14_6006 (G : Nat × (Nat → Int32)) (d : Nat)  (σ : aH) : Lq G d M_14 (13, [some (.ref 98)], [], σ) = Lq G d M_14 (18, [some (.ref 98)], [.int (1 : Int32)], σ) :=
  (aUn_eq (tkd G.1 G.2) tmi (aRun (tkd G.1 G.2) tmi tmt d) M_14 [] 2 (13, [some (.ref 98)], [], σ)).trans rfl
theorem q_14_6007 (G : Nat × (Nat → Int32)) (d : Nat)  (σ : aH) : Lq G d M_14 (0, [some (.ref 100)], [], σ) = Lq G d M_14 (3, [some (.ref 100)], [.int (1 : Int32)], σ) :=
  (aUn_eq (tkd G.1 G.2) tmi (aRun (tkd G.1 G.2) tmi tmt d) M_14 [] 1 (0, [some (.ref 100)], [], σ)).trans rfl
theorem q_14_6008 (G : Nat × (Nat → Int32)) (d : Nat) (s0 : Int32) (σ : aH) : Lq G d M_14 (3, [some (.ref 100)], [.int s0], σ) = if s0 = 0 then Lq G d M_14 (17, [some (.ref 100)], [], σ) else Lq G d M_14 (6, [some (.ref 100)], [], σ) :=
  (aUn_eq (tkd G.1 G.2) tmi (aRun (tkd G.1 G.2) tmi tmt d) M_14 [] 1 (3, [some (.ref 100)], [.int s0], σ)).trans rfl
theorem q_14_6009 (G : Nat × (Nat → Int32)) (d : Nat)  (σ : aH) : Lq G d M_14 (17, [some (.ref 100)], [], σ) = Lq G d M_14 (18, [some (.ref 100)], [.int (0 : Int32)], σ) :=
  (aUn_eq (tkd G.1 G.2) tmi (aRun (tkd G.1 G.2) tmi tmt d) M_14 [] 1 (17, [some (.ref 100)], [], σ)).trans rfl
theorem q_14_6010 (G : Nat × (Nat → Int32)) (d : Nat) (s0 : Int32) (σ : aH) : Lq G d M_14 (18, [some (.ref 100)], [.int s0], σ) = aNar .boolean (s0) (some (.inl (some (.int s0)), σ)) :=
  (aUn_eq (tkd G.1 G.2) tmi (aRun (tkd G.1 G.2) tmi tmt d) M_14 [] 1 (18, [some (.ref 100)], [.int s0], σ)).trans rfl
theorem q_14_6011 (G : Nat × (Nat → Int32)) (d : Nat)  (σ : aH) : Lq G d M_14 (6, [some (.ref 100)], [], σ) = Lq G d M_14 (10, [some (.ref 100)], [.int (0 : Int32)], σ) :=
  (aUn_eq (tkd G.1 G.2) tmi (aRun (tkd G.1 G.2) tmi tmt d) M_14 [] 2 (6, [some (.ref 100)], [], σ)).trans rfl
theorem q_14_6012 (G : Nat × (Nat → Int32)) (d : Nat) (s0 : Int32) (σ : aH) : Lq G d M_14 (10, [some (.ref 100)], [.int s0], σ) = if s0 = 0 then Lq G d M_14 (13, [some (.ref 100)], [], σ) else Lq G d M_14 (17, [some (.ref 100)], [], σ) :=
  (aUn_eq (tkd G.1 G.2) tmi (aRun (tkd G.1 G.2) tmi tmt d) M_14 [] 1 (10, [some (.ref 100)], [.int s0], σ)).trans rfl
theorem q_14_6013 (G : Nat × (Nat → Int32)) (d : Nat)  (σ : aH) : Lq G d M_14 (13, [some (.ref 100)], [], σ) = Lq G d M_14 (18, [some (.ref 100)], [.int (1 : Int32)], σ) :=
  (aUn_eq (tkd G.1 G.2) tmi (aRun (tkd G.1 G.2) tmi tmt d) M_14 [] 2 (13, [some (.ref 100)], [], σ)).trans rfl
theorem q_14_6014 (G : Nat × (Nat → Int32)) (d : Nat)  (σ : aH) : Lq G d M_14 (0, [some (.ref 102)], [], σ) = Lq G d M_14 (3, [some (.ref 102)], [.int (1 : Int32)], σ) :=
  (aUn_eq (tkd G.1 G.2) tmi (aRun (tkd G.1 G.2) tmi tmt d) M_14 [] 1 (0, [some (.ref 102)], [], σ)).trans rfl
theorem q_14_6015 (G : Nat × (Nat → Int32)) (d : Nat) (s0 : Int32) (σ : aH) : Lq G d M_14 (3, [some (.ref 102)], [.int s0], σ) = if s0 = 0 then Lq G d M_14 (17, [some (.ref 102)], [], σ) else Lq G d M_14 (6, [some (.ref 102)], [], σ) :=
  (aUn_eq (tkd G.1 G.2) tmi (aRun (tkd G.1 G.2) tmi tmt d) M_14 [] 1 (3, [some (.ref 102)], [.int s0], σ)).trans rfl
theorem q_14_6016 (G : Nat × (Nat → Int32)) (d : Nat)  (σ : aH) : Lq G d M_14 (17, [some (.ref 102)], [], σ) = Lq G d M_14 (18, [some (.ref 102)], [.int (0 : Int32)], σ) :=
  (aUn_eq (tkd G.1 G.2) tmi (aRun (tkd G.1 G.2) tmi tmt d) M_14 [] 1 (17, [some (.ref 102)], [], σ)).trans rfl
theorem q_14_6017 (G : Nat × (Nat → Int32)) (d : Nat) (s0 : Int32) (σ : aH) : Lq G d M_14 (18, [some (.ref 102)], [.int s0], σ) = aNar .boolean (s0) (some (.inl (some (.int s0)), σ)) :=
  (aUn_eq (tkd G.1 G.2) tmi (aRun (tkd G.1 G.2) tmi tmt d) M_14 [] 1 (18, [some (.ref 102)], [.int s0], σ)).trans rfl
theorem q_14_6018 (G : Nat × (Nat → Int32)) (d : Nat)  (σ : aH) : Lq G d M_14 (6, [some (.ref 102)], [], σ) = Lq G d M_14 (10, [some (.ref 102)], [.int (0 : Int32)], σ) :=
  (aUn_eq (tkd G.1 G.2) tmi (aRun (tkd G.1 G.2) tmi tmt d) M_14 [] 2 (6, [some (.ref 102)], [], σ)).trans rfl
theorem q_14_6019 (G : Nat × (Nat → Int32)) (d : Nat) (s0 : Int32) (σ : aH) : Lq G d M_14 (10, [some (.ref 102)], [.int s0], σ) = if s0 = 0 then Lq G d M_14 (13, [some (.ref 102)], [], σ) else Lq G d M_14 (17, [some (.ref 102)], [], σ) :=
  (aUn_eq (tkd G.1 G.2) tmi (aRun (tkd G.1 G.2) tmi tmt d) M_14 [] 1 (10, [some (.ref 102)], [.int s0], σ)).trans rfl
theorem q_14_6020 (G : Nat × (Nat → Int32)) (d : Nat)  (σ : aH) : Lq G d M_14 (13, [some (.ref 102)], [], σ) = Lq G d M_14 (18, [some (.ref 102)], [.int (1 : Int32)], σ) :=
  (aUn_eq (tkd G.1 G.2) tmi (aRun (tkd G.1 G.2) tmi tmt d) M_14 [] 2 (13, [some (.ref 102)], [], σ)).trans rfl
theorem q_14_6021 (G : Nat × (Nat → Int32)) (d : Nat)  (σ : aH) : Lq G d M_14 (0, [some (.ref 104)], [], σ) = Lq G d M_14 (3, [some (.ref 104)], [.int (1 : Int32)], σ) :=
  (aUn_eq (tkd G.1 G.2) tmi (aRun (tkd G.1 G.2) tmi tmt d) M_14 [] 1 (0, [some (.ref 104)], [], σ)).trans rfl
theorem q_14_6022 (G : Nat × (Nat → Int32)) (d : Nat) (s0 : Int32) (σ : aH) : Lq G d M_14 (3, [some (.ref 104)], [.int s0], σ) = if s0 = 0 then Lq G d M_14 (17, [some (.ref 104)], [], σ) else Lq G d M_14 (6, [some (.ref 104)], [], σ) :=
  (aUn_eq (tkd G.1 G.2) tmi (aRun (tkd G.1 G.2) tmi tmt d) M_14 [] 1 (3, [some (.ref 104)], [.int s0], σ)).trans rfl
theorem q_14_6023 (G : Nat × (Nat → Int32)) (d : Nat)  (σ : aH) : Lq G d M_14 (17, [some (.ref 104)], [], σ) = Lq G d M_14 (18, [some (.ref 104)], [.int (0 : Int32)], σ) :=
  (aUn_eq (tkd G.1 G.2) tmi (aRun (tkd G.1 G.2) tmi tmt d) M_14 [] 1 (17, [some (.ref 104)], [], σ)).trans rfl
theorem q_14_6024 (G : Nat × (Nat → Int32)) (d : Nat) (s0 : Int32) (σ : aH) : Lq G d M_14 (18, [some (.ref 104)], [.int s0], σ) = aNar .boolean (s0) (some (.inl (some (.int s0)), σ)) :=
  (aUn_eq (tkd G.1 G.2) tmi (aRun (tkd G.1 G.2) tmi tmt d) M_14 [] 1 (18, [some (.ref 104)], [.int s0], σ)).trans rfl
theorem q_14_6025 (G : Nat × (Nat → Int32)) (d : Nat)  (σ : aH) : Lq G d M_14 (6, [some (.ref 104)], [], σ) = Lq G d M_14 (10, [some (.ref 104)], [.int (0 : Int32)], σ) :=
  (aUn_eq (tkd G.1 G.2) tmi (aRun (tkd G.1 G.2) tmi tmt d) M_14 [] 2 (6, [some (.ref 104)], [], σ)).trans rfl
theorem q_14_6026 (G : Nat × (Nat → Int32)) (d : Nat) (s0 : Int32) (σ : aH) : Lq G d M_14 (10, [some (.ref 104)], [.int s0], σ) = if s0 = 0 then Lq G d M_14 (13, [some (.ref 104)], [], σ) else Lq G d M_14 (17, [some (.ref 104)], [], σ) :=
  (aUn_eq (tkd G.1 G.2) tmi (aRun (tkd G.1 G.2) tmi tmt d) M_14 [] 1 (10, [some (.ref 104)], [.int s0], σ)).trans rfl
theorem q_14_6027 (G : Nat × (Nat → Int32)) (d : Nat)  (σ : aH) : Lq G d M_14 (13, [some (.ref 104)], [], σ) = Lq G d M_14 (18, [some (.ref 104)], [.int (1 : Int32)], σ) :=
  (aUn_eq (tkd G.1 G.2) tmi (aRun (tkd G.1 G.2) tmi tmt d) M_14 [] 2 (13, [some (.ref 104)], [], σ)).trans rfl
theorem q_14_6028 (G : Nat × (Nat → Int32)) (d : Nat)  (σ : aH) : Lq G d M_14 (0, [some (.ref 106)], [], σ) = Lq G d M_14 (3, [some (.ref 106)], [.int (1 : Int32)], σ) :=
  (aUn_eq (tkd G.1 G.2) tmi (aRun (tkd G.1 G.2) tmi tmt d) M_14 [] 1 (0, [some (.ref 106)], [], σ)).trans rfl
theorem q_14_6029 (G : Nat × (Nat → Int32)) (d : Nat) (s0 : Int32) (σ : aH) : Lq G d M_14 (3, [some (.ref 106)], [.int s0], σ) = if s0 = 0 then Lq G d M_14 (17, [some (.ref 106)], [], σ) else Lq G d M_14 (6, [some (.ref 106)], [], σ) :=
  (aUn_eq (tkd G.1 G.2) tmi (aRun (tkd G.1 G.2) tmi tmt d) M_14 [] 1 (3, [some (.ref 106)], [.int s0], σ)).trans rfl
theorem q_14_6030 (G : Nat × (Nat → Int32)) (d : Nat)  (σ : aH) : Lq G d M_14 (17, [some (.ref 106)], [], σ) = Lq G d M_14 (18, [some (.ref 106)], [.int (0 : Int32)], σ) :=
  (aUn_eq (tkd G.1 G.2) tmi (aRun (tkd G.1 G.2) tmi tmt d) M_14 [] 1 (17, [some (.ref 106)], [], σ)).trans rfl
theorem q_14_6031 (G : Nat × (Nat → Int32)) (d : Nat) (s0 : Int32) (σ : aH) : Lq G d M_14 (18, [some (.ref 106)], [.int s0], σ) = aNar .boolean (s0) (some (.inl (some (.int s0)), σ)) :=
  (aUn_eq (tkd G.1 G.2) tmi (aRun (tkd G.1 G.2) tmi tmt d) M_14 [] 1 (18, [some (.ref 106)], [.int s0], σ)).trans rfl
theorem q_14_6032 (G : Nat × (Nat → Int32)) (d : Nat)  (σ : aH) : Lq G d M_14 (6, [some (.ref 106)], [], σ) = Lq G d M_14 (10, [some (.ref 106)], [.int (0 : Int32)], σ) :=
  (aUn_eq (tkd G.1 G.2) tmi (aRun (tkd G.1 G.2) tmi tmt d) M_14 [] 2 (6, [some (.ref 106)], [], σ)).trans rfl
theorem q_14_6033 (G : Nat × (Nat → Int32)) (d : Nat) (s0 : Int32) (σ : aH) : Lq G d M_14 (10, [some (.ref 106)], [.int s0], σ) = if s0 = 0 then Lq G d M_14 (13, [some (.ref 106)], [], σ) else Lq G d M_14 (17, [some (.ref 106)], [], σ) :=
  (aUn_eq (tkd G.1 G.2) tmi (aRun (tkd G.1 G.2) tmi tmt d) M_14 [] 1 (10, [some (.ref 106)], [.int s0], σ)).trans rfl
theorem q_14_6034 (G : Nat × (Nat → Int32)) (d : Nat)  (σ : aH) : Lq G d M_14 (13, [some (.ref 106)], [], σ) = Lq G d M_14 (18, [some (.ref 106)], [.int (1 : Int32)], σ) :=
  (aUn_eq (tkd G.1 G.2) tmi (aRun (tkd G.1 G.2) tmi tmt d) M_14 [] 2 (13, [some (.ref 106)], [], σ)).trans rfl
theorem q_14_6035 (G : Nat × (Nat → Int32)) (d : Nat)  (σ : aH) : Lq G d M_14 (0, [some (.ref 108)], [], σ) = Lq G d M_14 (3, [some (.ref 108)], [.int (1 : Int32)], σ) :=
  (aUn_eq (tkd G.1 G.2) tmi (aRun (tkd G.1 G.2) tmi tmt d) M_14 [] 1 (0, [some (.ref 108)], [], σ)).trans rfl
theorem q_14_6036 (G : Nat × (Nat → Int32)) (d : Nat) (s0 : Int32) (σ : aH) : Lq G d M_14 (3, [some (.ref 108)], [.int s0], σ) = if s0 = 0 then Lq G d M_14 (17, [some (.ref 108)], [], σ) else Lq G d M_14 (6, [some (.ref 108)], [], σ) :=
  (aUn_eq (tkd G.1 G.2) tmi (aRun (tkd G.1 G.2) tmi tmt d) M_14 [] 1 (3, [some (.ref 108)], [.int s0], σ)).trans rfl
theorem q_14_6037 (G : Nat × (Nat → Int32)) (d : Nat)  (σ : aH) : Lq G d M_14 (17, [some (.ref 108)], [], σ) = Lq G d M_14 (18, [some (.ref 108)], [.int (0 : Int32)], σ) :=
  (aUn_eq (tkd G.1 G.2) tmi (aRun (tkd G.1 G.2) tmi tmt d) M_14 [] 1 (17, [some (.ref 108)], [], σ)).trans rfl
theorem q_14_6038 (G : Nat × (Nat → Int32)) (d : Nat) (s0 : Int32) (σ : aH) : Lq G d M_14 (18, [some (.ref 108)], [.int s0], σ) = aNar .boolean (s0) (some (.inl (some (.int s0)), σ)) :=
  (aUn_eq (tkd G.1 G.2) tmi (aRun (tkd G.1 G.2) tmi tmt d) M_14 [] 1 (18, [some (.ref 108)], [.int s0], σ)).trans rfl
theorem q_14_6039 (G : Nat × (Nat → Int32)) (d : Nat)  (σ : aH) : Lq G d M_14 (6, [some (.ref 108)], [], σ) = Lq G d M_14 (10, [some (.ref 108)], [.int (0 : Int32)], σ) :=
  (aUn_eq (tkd G.1 G.2) tmi (aRun (tkd G.1 G.2) tmi tmt d) M_14 [] 2 (6, [some (.ref 108)], [], σ)).trans rfl
theorem q_14_6040 (G : Nat × (Nat → Int32)) (d : Nat) (s0 : Int32) (σ : aH) : Lq G d M_14 (10, [some (.ref 108)], [.int s0], σ) = if s0 = 0 then Lq G d M_14 (13, [some (.ref 108)], [], σ) else Lq G d M_14 (17, [some (.ref 108)], [], σ) :=
  (aUn_eq (tkd G.1 G.2) tmi (aRun (tkd G.1 G.2) tmi tmt d) M_14 [] 1 (10, [some (.ref 108)], [.int s0], σ)).trans rfl
theorem q_14_6041 (G : Nat × (Nat → Int32)) (d : Nat)  (σ : aH) : Lq G d M_14 (13, [some (.ref 108)], [], σ) = Lq G d M_14 (18, [some (.ref 108)], [.int (1 : Int32)], σ) :=
  (aUn_eq (tkd G.1 G.2) tmi (aRun (tkd G.1 G.2) tmi tmt d) M_14 [] 2 (13, [some (.ref 108)], [], σ)).trans rfl
theorem q_14_6042 (G : Nat × (Nat → Int32)) (d : Nat)  (σ : aH) : Lq G d M_14 (0, [some (.ref 110)], [], σ) = Lq G d M_14 (3, [some (.ref 110)], [.int (1 : Int32)], σ) :=
  (aUn_eq (tkd G.1 G.2) tmi (aRun (tkd G.1 G.2) tmi tmt d) M_14 [] 1 (0, [some (.ref 110)], [], σ)).trans rfl
theorem q_14_6043 (G : Nat × (Nat → Int32)) (d : Nat) (s0 : Int32) (σ : aH) : Lq G d M_14 (3, [some (.ref 110)], [.int s0], σ) = if s0 = 0 then Lq G d M_14 (17, [some (.ref 110)], [], σ) else Lq G d M_14 (6, [some (.ref 110)], [], σ) :=
  (aUn_eq (tkd G.1 G.2) tmi (aRun (tkd G.1 G.2) tmi tmt d) M_14 [] 1 (3, [some (.ref 110)], [.int s0], σ)).trans rfl
theorem q_14_6044 (G : Nat × (Nat → Int32)) (d : Nat)  (σ : aH) : Lq G d M_14 (17, [some (.ref 110)], [], σ) = Lq G d M_14 (18, [some (.ref 110)], [.int (0 : Int32)], σ) :=
  (aUn_eq (tkd G.1 G.2) tmi (aRun (tkd G.1 G.2) tmi tmt d) M_14 [] 1 (17, [some (.ref 110)], [], σ)).trans rfl
theorem q_14_6045 (G : Nat × (Nat → Int32)) (d : Nat) (s0 : Int32) (σ : aH) : Lq G d M_14 (18, [some (.ref 110)], [.int s0], σ) = aNar .boolean (s0) (some (.inl (some (.int s0)), σ)) :=
  (aUn_eq (tkd G.1 G.2) tmi (aRun (tkd G.1 G.2) tmi tmt d) M_14 [] 1 (18, [some (.ref 110)], [.int s0], σ)).trans rfl
theorem q_14_6046 (G : Nat × (Nat → Int32)) (d : Nat)  (σ : aH) : Lq G d M_14 (6, [some (.ref 110)], [], σ) = Lq G d M_14 (10, [some (.ref 110)], [.int (0 : Int32)], σ) :=
  (aUn_eq (tkd G.1 G.2) tmi (aRun (tkd G.1 G.2) tmi tmt d) M_14 [] 2 (6, [some (.ref 110)], [], σ)).trans rfl
theorem q_14_6047 (G : Nat × (Nat → Int32)) (d : Nat) (s0 : Int32) (σ : aH) : Lq G d M_14 (10, [some (.ref 110)], [.int s0], σ) = if s0 = 0 then Lq G d M_14 (13, [some (.ref 110)], [], σ) else Lq G d M_14 (17, [some (.ref 110)], [], σ) :=
  (aUn_eq (tkd G.1 G.2) tmi (aRun (tkd G.1 G.2) tmi tmt d) M_14 [] 1 (10, [some (.ref 110)], [.int s0], σ)).trans rfl
theorem q_14_6048 (G : Nat × (Nat → Int32)) (d : Nat)  (σ : aH) : Lq G d M_14 (13, [some (.ref 110)], [], σ) = Lq G d M_14 (18, [some (.ref 110)], [.int (1 : Int32)], σ) :=
  (aUn_eq (tkd G.1 G.2) tmi (aRun (tkd G.1 G.2) tmi tmt d) M_14 [] 2 (13, [some (.ref 110)], [], σ)).trans rfl
theorem q_14_6049 (G : Nat × (Nat → Int32)) (d : Nat)  (σ : aH) : Lq G d M_14 (0, [some (.ref 112)], [], σ) = Lq G d M_14 (3, [some (.ref 112)], [.int (1 : Int32)], σ) :=
  (aUn_eq (tkd G.1 G.2) tmi (aRun (tkd G.1 G.2) tmi tmt d) M_14 [] 1 (0, [some (.ref 112)], [], σ)).trans rfl
theorem q_14_6050 (G : Nat × (Nat → Int32)) (d : Nat) (s0 : Int32) (σ : aH) : Lq G d M_14 (3, [some (.ref 112)], [.int s0], σ) = if s0 = 0 then Lq G d M_14 (17, [some (.ref 112)], [], σ) else Lq G d M_14 (6, [some (.ref 112)], [], σ) :=
  (aUn_eq (tkd G.1 G.2) tmi (aRun (tkd G.1 G.2) tmi tmt d) M_14 [] 1 (3, [some (.ref 112)], [.int s0], σ)).trans rfl
theorem q_14_6051 (G : Nat × (Nat → Int32)) (d : Nat)  (σ : aH) : Lq G d M_14 (17, [some (.ref 112)], [], σ) = Lq G d M_14 (18, [some (.ref 112)], [.int (0 : Int32)], σ) :=
  (aUn_eq (tkd G.1 G.2) tmi (aRun (tkd G.1 G.2) tmi tmt d) M_14 [] 1 (17, [some (.ref 112)], [], σ)).trans rfl
theorem q_14_6052 (G : Nat × (Nat → Int32)) (d : Nat) (s0 : Int32) (σ : aH) : Lq G d M_14 (18, [some (.ref 112)], [.int s0], σ) = aNar .boolean (s0) (some (.inl (some (.int s0)), σ)) :=
  (aUn_eq (tkd G.1 G.2) tmi (aRun (tkd G.1 G.2) tmi tmt d) M_14 [] 1 (18, [some (.ref 112)], [.int s0], σ)).trans rfl
theorem q_14_6053 (G : Nat × (Nat → Int32)) (d : Nat)  (σ : aH) : Lq G d M_14 (6, [some (.ref 112)], [], σ) = Lq G d M_14 (10, [some (.ref 112)], [.int (0 : Int32)], σ) :=
  (aUn_eq (tkd G.1 G.2) tmi (aRun (tkd G.1 G.2) tmi tmt d) M_14 [] 2 (6, [some (.ref 112)], [], σ)).trans rfl
theorem q_14_6054 (G : Nat × (Nat → Int32)) (d : Nat) (s0 : Int32) (σ : aH) : Lq G d M_14 (10, [some (.ref 112)], [.int s0], σ) = if s0 = 0 then Lq G d M_14 (13, [some (.ref 112)], [], σ) else Lq G d M_14 (17, [some (.ref 112)], [], σ) :=
  (aUn_eq (tkd G.1 G.2) tmi (aRun (tkd G.1 G.2) tmi tmt d) M_14 [] 1 (10, [some (.ref 112)], [.int s0], σ)).trans rfl
theorem q_14_6055 (G : Nat × (Nat → Int32)) (d : Nat)  (σ : aH) : Lq G d M_14 (13, [some (.ref 112)], [], σ) = Lq G d M_14 (18, [some (.ref 112)], [.int (1 : Int32)], σ) :=
  (aUn_eq (tkd G.1 G.2) tmi (aRun (tkd G.1 G.2) tmi tmt d) M_14 [] 2 (13, [some (.ref 112)], [], σ)).trans rfl
theorem q_14_6056 (G : Nat × (Nat → Int32)) (d : Nat)  (σ : aH) : Lq G d M_14 (0, [some (.ref 114)], [], σ) = Lq G d M_14 (3, [some (.ref 114)], [.int (1 : Int32)], σ) :=
  (aUn_eq (tkd G.1 G.2) tmi (aRun (tkd G.1 G.2) tmi tmt d) M_14 [] 1 (0, [some (.ref 114)], [], σ)).trans rfl
theorem q_14_6057 (G : Nat × (Nat → Int32)) (d : Nat) (s0 : Int32) (σ : aH) : Lq G d M_14 (3, [some (.ref 114)], [.int s0], σ) = if s0 = 0 then Lq G d M_14 (17, [some (.ref 114)], [], σ) else Lq G d M_14 (6, [some (.ref 114)], [], σ) :=
  (aUn_eq (tkd G.1 G.2) tmi (aRun (tkd G.1 G.2) tmi tmt d) M_14 [] 1 (3, [some (.ref 114)], [.int s0], σ)).trans rfl
theorem q_14_6058 (G : Nat × (Nat → Int32)) (d : Nat)  (σ : aH) : Lq G d M_14 (17, [some (.ref 114)], [], σ) = Lq G d M_14 (18, [some (.ref 114)], [.int (0 : Int32)], σ) :=
  (aUn_eq (tkd G.1 G.2) tmi (aRun (tkd G.1 G.2) tmi tmt d) M_14 [] 1 (17, [some (.ref 114)], [], σ)).trans rfl
theorem q_14_6059 (G : Nat × (Nat → Int32)) (d : Nat) (s0 : Int32) (σ : aH) : Lq G d M_14 (18, [some (.ref 114)], [.int s0], σ) = aNar .boolean (s0) (some (.inl (some (.int s0)), σ)) :=
  (aUn_eq (tkd G.1 G.2) tmi (aRun (tkd G.1 G.2) tmi tmt d) M_14 [] 1 (18, [some (.ref 114)], [.int s0], σ)).trans rfl
theorem q_14_6060 (G : Nat × (Nat → Int32)) (d : Nat)  (σ : aH) : Lq G d M_14 (6, [some (.ref 114)], [], σ) = Lq G d M_14 (10, [some (.ref 114)], [.int (0 : Int32)], σ) :=
  (aUn_eq (tkd G.1 G.2) tmi (aRun (tkd G.1 G.2) tmi tmt d) M_14 [] 2 (6, [some (.ref 114)], [], σ)).trans rfl
theorem q_14_6061 (G : Nat × (Nat → Int32)) (d : Nat) (s0 : Int32) (σ : aH) : Lq G d M_14 (10, [some (.ref 114)], [.int s0], σ) = if s0 = 0 then Lq G d M_14 (13, [some (.ref 114)], [], σ) else Lq G d M_14 (17, [some (.ref 114)], [], σ) :=
  (aUn_eq (tkd G.1 G.2) tmi (aRun (tkd G.1 G.2) tmi tmt d) M_14 [] 1 (10, [some (.ref 114)], [.int s0], σ)).trans rfl
theorem q_14_6062 (G : Nat × (Nat → Int32)) (d : Nat)  (σ : aH) : Lq G d M_14 (13, [some (.ref 114)], [], σ) = Lq G d M_14 (18, [some (.ref 114)], [.int (1 : Int32)], σ) :=
  (aUn_eq (tkd G.1 G.2) tmi (aRun (tkd G.1 G.2) tmi tmt d) M_14 [] 2 (13, [some (.ref 114)], [], σ)).trans rfl
theorem q_14_6063 (G : Nat × (Nat → Int32)) (d : Nat)  (σ : aH) : Lq G d M_14 (0, [some (.ref 116)], [], σ) = Lq G d M_14 (3, [some (.ref 116)], [.int (1 : Int32)], σ) :=
  (aUn_eq (tkd G.1 G.2) tmi (aRun (tkd G.1 G.2) tmi tmt d) M_14 [] 1 (0, [some (.ref 116)], [], σ)).trans rfl
theorem q_14_6064 (G : Nat × (Nat → Int32)) (d : Nat) (s0 : Int32) (σ : aH) : Lq G d M_14 (3, [some (.ref 116)], [.int s0], σ) = if s0 = 0 then Lq G d M_14 (17, [some (.ref 116)], [], σ) else Lq G d M_14 (6, [some (.ref 116)], [], σ) :=
  (aUn_eq (tkd G.1 G.2) tmi (aRun (tkd G.1 G.2) tmi tmt d) M_14 [] 1 (3, [some (.ref 116)], [.int s0], σ)).trans rfl
theorem q_14_6065 (G : Nat × (Nat → Int32)) (d : Nat)  (σ : aH) : Lq G d M_14 (17, [some (.ref 116)], [], σ) = Lq G d M_14 (18, [some (.ref 116)], [.int (0 : Int32)], σ) :=
  (aUn_eq (tkd G.1 G.2) tmi (aRun (tkd G.1 G.2) tmi tmt d) M_14 [] 1 (17, [some (.ref 116)], [], σ)).trans rfl
theorem q_14_6066 (G : Nat × (Nat → Int32)) (d : Nat) (s0 : Int32) (σ : aH) : Lq G d M_14 (18, [some (.ref 116)], [.int s0], σ) = aNar .boolean (s0) (some (.inl (some (.int s0)), σ)) :=
  (aUn_eq (tkd G.1 G.2) tmi (aRun (tkd G.1 G.2) tmi tmt d) M_14 [] 1 (18, [some (.ref 116)], [.int s0], σ)).trans rfl
theorem q_14_6067 (G : Nat × (Nat → Int32)) (d : Nat)  (σ : aH) : Lq G d M_14 (6, [some (.ref 116)], [], σ) = Lq G d M_14 (10, [some (.ref 116)], [.int (0 : Int32)], σ) :=
  (aUn_eq (tkd G.1 G.2) tmi (aRun (tkd G.1 G.2) tmi tmt d) M_14 [] 2 (6, [some (.ref 116)], [], σ)).trans rfl
theorem q_14_6068 (G : Nat × (Nat → Int32)) (d : Nat) (s0 : Int32) (σ : aH) : Lq G d M_14 (10, [some (.ref 116)], [.int s0], σ) = if s0 = 0 then Lq G d M_14 (13, [some (.ref 116)], [], σ) else Lq G d M_14 (17, [some (.ref 116)], [], σ) :=
  (aUn_eq (tkd G.1 G.2) tmi (aRun (tkd G.1 G.2) tmi tmt d) M_14 [] 1 (10, [some (.ref 116)], [.int s0], σ)).trans rfl
theorem q_14_6069 (G : Nat × (Nat → Int32)) (d : Nat)  (σ : aH) : Lq G d M_14 (13, [some (.ref 116)], [], σ) = Lq G d M_14 (18, [some (.ref 116)], [.int (1 : Int32)], σ) :=
  (aUn_eq (tkd G.1 G.2) tmi (aRun (tkd G.1 G.2) tmi tmt d) M_14 [] 2 (13, [some (.ref 116)], [], σ)).trans rfl
theorem q_14_6070 (G : Nat × (Nat → Int32)) (d : Nat)  (σ : aH) : Lq G d M_14 (0, [some (.ref 118)], [], σ) = Lq G d M_14 (3, [some (.ref 118)], [.int (1 : Int32)], σ) :=
  (aUn_eq (tkd G.1 G.2) tmi (aRun (tkd G.1 G.2) tmi tmt d) M_14 [] 1 (0, [some (.ref 118)], [], σ)).trans rfl
theorem q_14_6071 (G : Nat × (Nat → Int32)) (d : Nat) (s0 : Int32) (σ : aH) : Lq G d M_14 (3, [some (.ref 118)], [.int s0], σ) = if s0 = 0 then Lq G d M_14 (17, [some (.ref 118)], [], σ) else Lq G d M_14 (6, [some (.ref 118)], [], σ) :=
  (aUn_eq (tkd G.1 G.2) tmi (aRun (tkd G.1 G.2) tmi tmt d) M_14 [] 1 (3, [some (.ref 118)], [.int s0], σ)).trans rfl
theorem q_14_6072 (G : Nat × (Nat → Int32)) (d : Nat)  (σ : aH) : Lq G d M_14 (17, [some (.ref 118)], [], σ) = Lq G d M_14 (18, [some (.ref 118)], [.int (0 : Int32)], σ) :=
  (aUn_eq (tkd G.1 G.2) tmi (aRun (tkd G.1 G.2) tmi tmt d) M_14 [] 1 (17, [some (.ref 118)], [], σ)).trans rfl
theorem q_14_6073 (G : Nat × (Nat → Int32)) (d : Nat) (s0 : Int32) (σ : aH) : Lq G d M_14 (18, [some (.ref 118)], [.int s0], σ) = aNar .boolean (s0) (some (.inl (some (.int s0)), σ)) :=
  (aUn_eq (tkd G.1 G.2) tmi (aRun (tkd G.1 G.2) tmi tmt d) M_14 [] 1 (18, [some (.ref 118)], [.int s0], σ)).trans rfl
theorem q_14_6074 (G : Nat × (Nat → Int32)) (d : Nat)  (σ : aH) : Lq G d M_14 (6, [some (.ref 118)], [], σ) = Lq G d M_14 (10, [some (.ref 118)], [.int (0 : Int32)], σ) :=
  (aUn_eq (tkd G.1 G.2) tmi (aRun (tkd G.1 G.2) tmi tmt d) M_14 [] 2 (6, [some (.ref 118)], [], σ)).trans rfl
theorem q_14_6075 (G : Nat × (Nat → Int32)) (d : Nat) (s0 : Int32) (σ : aH) : Lq G d M_14 (10, [some (.ref 118)], [.int s0], σ) = if s0 = 0 then Lq G d M_14 (13, [some (.ref 118)], [], σ) else Lq G d M_14 (17, [some (.ref 118)], [], σ) :=
  (aUn_eq (tkd G.1 G.2) tmi (aRun (tkd G.1 G.2) tmi tmt d) M_14 [] 1 (10, [some (.ref 118)], [.int s0], σ)).trans rfl
theorem q_14_6076 (G : Nat × (Nat → Int32)) (d : Nat)  (σ : aH) : Lq G d M_14 (13, [some (.ref 118)], [], σ) = Lq G d M_14 (18, [some (.ref 118)], [.int (1 : Int32)], σ) :=
  (aUn_eq (tkd G.1 G.2) tmi (aRun (tkd G.1 G.2) tmi tmt d) M_14 [] 2 (13, [some (.ref 118)], [], σ)).trans rfl
theorem q_14_6077 (G : Nat × (Nat → Int32)) (d : Nat)  (σ : aH) : Lq G d M_14 (0, [some (.ref 120)], [], σ) = Lq G d M_14 (3, [some (.ref 120)], [.int (1 : Int32)], σ) :=
  (aUn_eq (tkd G.1 G.2) tmi (aRun (tkd G.1 G.2) tmi tmt d) M_14 [] 1 (0, [some (.ref 120)], [], σ)).trans rfl
theorem q_14_6078 (G : Nat × (Nat → Int32)) (d : Nat) (s0 : Int32) (σ : aH) : Lq G d M_14 (3, [some (.ref 120)], [.int s0], σ) = if s0 = 0 then Lq G d M_14 (17, [some (.ref 120)], [], σ) else Lq G d M_14 (6, [some (.ref 120)], [], σ) :=
  (aUn_eq (tkd G.1 G.2) tmi (aRun (tkd G.1 G.2) tmi tmt d) M_14 [] 1 (3, [some (.ref 120)], [.int s0], σ)).trans rfl
theorem q_14_6079 (G : Nat × (Nat → Int32)) (d : Nat)  (σ : aH) : Lq G d M_14 (17, [some (.ref 120)], [], σ) = Lq G d M_14 (18, [some (.ref 120)], [.int (0 : Int32)], σ) :=
  (aUn_eq (tkd G.1 G.2) tmi (aRun (tkd G.1 G.2) tmi tmt d) M_14 [] 1 (17, [some (.ref 120)], [], σ)).trans rfl
theorem q_14_6080 (G : Nat × (Nat → Int32)) (d : Nat) (s0 : Int32) (σ : aH) : Lq G d M_14 (18, [some (.ref 120)], [.int s0], σ) = aNar .boolean (s0) (some (.inl (some (.int s0)), σ)) :=
  (aUn_eq (tkd G.1 G.2) tmi (aRun (tkd G.1 G.2) tmi tmt d) M_14 [] 1 (18, [some (.ref 120)], [.int s0], σ)).trans rfl
theorem q_14_6081 (G : Nat × (Nat → Int32)) (d : Nat)  (σ : aH) : Lq G d M_14 (6, [some (.ref 120)], [], σ) = Lq G d M_14 (10, [some (.ref 120)], [.int (0 : Int32)], σ) :=
  (aUn_eq (tkd G.1 G.2) tmi (aRun (tkd G.1 G.2) tmi tmt d) M_14 [] 2 (6, [some (.ref 120)], [], σ)).trans rfl
theorem q_14_6082 (G : Nat × (Nat → Int32)) (d : Nat) (s0 : Int32) (σ : aH) : Lq G d M_14 (10, [some (.ref 120)], [.int s0], σ) = if s0 = 0 then Lq G d M_14 (13, [some (.ref 120)], [], σ) else Lq G d M_14 (17, [some (.ref 120)], [], σ) :=
  (aUn_eq (tkd G.1 G.2) tmi (aRun (tkd G.1 G.2) tmi tmt d) M_14 [] 1 (10, [some (.ref 120)], [.int s0], σ)).trans rfl
theorem q_14_6083 (G : Nat × (Nat → Int32)) (d : Nat)  (σ : aH) : Lq G d M_14 (13, [some (.ref 120)], [], σ) = Lq G d M_14 (18, [some (.ref 120)], [.int (1 : Int32)], σ) :=
  (aUn_eq (tkd G.1 G.2) tmi (aRun (tkd G.1 G.2) tmi tmt d) M_14 [] 2 (13, [some (.ref 120)], [], σ)).trans rfl
theorem q_14_6084 (G : Nat × (Nat → Int32)) (d : Nat)  (σ : aH) : Lq G d M_14 (0, [some (.ref 122)], [], σ) = Lq G d M_14 (3, [some (.ref 122)], [.int (1 : Int32)], σ) :=
  (aUn_eq (tkd G.1 G.2) tmi (aRun (tkd G.1 G.2) tmi tmt d) M_14 [] 1 (0, [some (.ref 122)], [], σ)).trans rfl
theorem q_14_6085 (G : Nat × (Nat → Int32)) (d : Nat) (s0 : Int32) (σ : aH) : Lq G d M_14 (3, [some (.ref 122)], [.int s0], σ) = if s0 = 0 then Lq G d M_14 (17, [some (.ref 122)], [], σ) else Lq G d M_14 (6, [some (.ref 122)], [], σ) :=
  (aUn_eq (tkd G.1 G.2) tmi (aRun (tkd G.1 G.2) tmi tmt d) M_14 [] 1 (3, [some (.ref 122)], [.int s0], σ)).trans rfl
theorem q_14_6086 (G : Nat × (Nat → Int32)) (d : Nat)  (σ : aH) : Lq G d M_14 (17, [some (.ref 122)], [], σ) = Lq G d M_14 (18, [some (.ref 122)], [.int (0 : Int32)], σ) :=
  (aUn_eq (tkd G.1 G.2) tmi (aRun (tkd G.1 G.2) tmi tmt d) M_14 [] 1 (17, [some (.ref 122)], [], σ)).trans rfl
theorem q_14_6087 (G : Nat × (Nat → Int32)) (d : Nat) (s0 : Int32) (σ : aH) : Lq G d M_14 (18, [some (.ref 122)], [.int s0], σ) = aNar .boolean (s0) (some (.inl (some (.int s0)), σ)) :=
  (aUn_eq (tkd G.1 G.2) tmi (aRun (tkd G.1 G.2) tmi tmt d) M_14 [] 1 (18, [some (.ref 122)], [.int s0], σ)).trans rfl
theorem q_14_6088 (G : Nat × (Nat → Int32)) (d : Nat)  (σ : aH) : Lq G d M_14 (6, [some (.ref 122)], [], σ) = Lq G d M_14 (10, [some (.ref 122)], [.int (0 : Int32)], σ) :=
  (aUn_eq (tkd G.1 G.2) tmi (aRun (tkd G.1 G.2) tmi tmt d) M_14 [] 2 (6, [some (.ref 122)], [], σ)).trans rfl
theorem q_14_6089 (G : Nat × (Nat → Int32)) (d : Nat) (s0 : Int32) (σ : aH) : Lq G d M_14 (10, [some (.ref 122)], [.int s0], σ) = if s0 = 0 then Lq G d M_14 (13, [some (.ref 122)], [], σ) else Lq G d M_14 (17, [some (.ref 122)], [], σ) :=
  (aUn_eq (tkd G.1 G.2) tmi (aRun (tkd G.1 G.2) tmi tmt d) M_14 [] 1 (10, [some (.ref 122)], [.int s0], σ)).trans rfl
theorem q_14_6090 (G : Nat × (Nat → Int32)) (d : Nat)  (σ : aH) : Lq G d M_14 (13, [some (.ref 122)], [], σ) = Lq G d M_14 (18, [some (.ref 122)], [.int (1 : Int32)], σ) :=
  (aUn_eq (tkd G.1 G.2) tmi (aRun (tkd G.1 G.2) tmi tmt d) M_14 [] 2 (13, [some (.ref 122)], [], σ)).trans rfl
theorem q_14_6091 (G : Nat × (Nat → Int32)) (d : Nat)  (σ : aH) : Lq G d M_14 (0, [some (.ref 124)], [], σ) = Lq G d M_14 (3, [some (.ref 124)], [.int (1 : Int32)], σ) :=
  (aUn_eq (tkd G.1 G.2) tmi (aRun (tkd G.1 G.2) tmi tmt d) M_14 [] 1 (0, [some (.ref 124)], [], σ)).trans rfl
theorem q_14_6092 (G : Nat × (Nat → Int32)) (d : Nat) (s0 : Int32) (σ : aH) : Lq G d M_14 (3, [some (.ref 124)], [.int s0], σ) = if s0 = 0 then Lq G d M_14 (17, [some (.ref 124)], [], σ) else Lq G d M_14 (6, [some (.ref 124)], [], σ) :=
  (aUn_eq (tkd G.1 G.2) tmi (aRun (tkd G.1 G.2) tmi tmt d) M_14 [] 1 (3, [some (.ref 124)], [.int s0], σ)).trans rfl
theorem q_14_6093 (G : Nat × (Nat → Int32)) (d : Nat)  (σ : aH) : Lq G d M_14 (17, [some (.ref 124)], [], σ) = Lq G d M_14 (18, [some (.ref 124)], [.int (0 : Int32)], σ) :=
  (aUn_eq (tkd G.1 G.2) tmi (aRun (tkd G.1 G.2) tmi tmt d) M_14 [] 1 (17, [some (.ref 124)], [], σ)).trans rfl
theorem q_14_6094 (G : Nat × (Nat → Int32)) (d : Nat) (s0 : Int32) (σ : aH) : Lq G d M_14 (18, [some (.ref 124)], [.int s0], σ) = aNar .boolean (s0) (some (.inl (some (.int s0)), σ)) :=
  (aUn_eq (tkd G.1 G.2) tmi (aRun (tkd G.1 G.2) tmi tmt d) M_14 [] 1 (18, [some (.ref 124)], [.int s0], σ)).trans rfl
theorem q_14_6095 (G : Nat × (Nat → Int32)) (d : Nat)  (σ : aH) : Lq G d M_14 (6, [some (.ref 124)], [], σ) = Lq G d M_14 (10, [some (.ref 124)], [.int (0 : Int32)], σ) :=
  (aUn_eq (tkd G.1 G.2) tmi (aRun (tkd G.1 G.2) tmi tmt d) M_14 [] 2 (6, [some (.ref 124)], [], σ)).trans rfl
theorem q_14_6096 (G : Nat × (Nat → Int32)) (d : Nat) (s0 : Int32) (σ : aH) : Lq G d M_14 (10, [some (.ref 124)], [.int s0], σ) = if s0 = 0 then Lq G d M_14 (13, [some (.ref 124)], [], σ) else Lq G d M_14 (17, [some (.ref 124)], [], σ) :=
  (aUn_eq (tkd G.1 G.2) tmi (aRun (tkd G.1 G.2) tmi tmt d) M_14 [] 1 (10, [some (.ref 124)], [.int s0], σ)).trans rfl
theorem q_14_6097 (G : Nat × (Nat → Int32)) (d : Nat)  (σ : aH) : Lq G d M_14 (13, [some (.ref 124)], [], σ) = Lq G d M_14 (18, [some (.ref 124)], [.int (1 : Int32)], σ) :=
  (aUn_eq (tkd G.1 G.2) tmi (aRun (tkd G.1 G.2) tmi tmt d) M_14 [] 2 (13, [some (.ref 124)], [], σ)).trans rfl
theorem q_14_6098 (G : Nat × (Nat → Int32)) (d : Nat)  (σ : aH) : Lq G d M_14 (0, [some (.ref 126)], [], σ) = Lq G d M_14 (3, [some (.ref 126)], [.int (1 : Int32)], σ) :=
  (aUn_eq (tkd G.1 G.2) tmi (aRun (tkd G.1 G.2) tmi tmt d) M_14 [] 1 (0, [some (.ref 126)], [], σ)).trans rfl
theorem q_14_6099 (G : Nat × (Nat → Int32)) (d : Nat) (s0 : Int32) (σ : aH) : Lq G d M_14 (3, [some (.ref 126)], [.int s0], σ) = if s0 = 0 then Lq G d M_14 (17, [some (.ref 126)], [], σ) else Lq G d M_14 (6, [some (.ref 126)], [], σ) :=
  (aUn_eq (tkd G.1 G.2) tmi (aRun (tkd G.1 G.2) tmi tmt d) M_14 [] 1 (3, [some (.ref 126)], [.int s0], σ)).trans rfl
theorem q_14_6100 (G : Nat × (Nat → Int32)) (d : Nat)  (σ : aH) : Lq G d M_14 (17, [some (.ref 126)], [], σ) = Lq G d M_14 (18, [some (.ref 126)], [.int (0 : Int32)], σ) :=
  (aUn_eq (tkd G.1 G.2) tmi (aRun (tkd G.1 G.2) tmi tmt d) M_14 [] 1 (17, [some (.ref 126)], [], σ)).trans rfl
theorem q_14_6101 (G : Nat × (Nat → Int32)) (d : Nat) (s0 : Int32) (σ : aH) : Lq G d M_14 (18, [some (.ref 126)], [.int s0], σ) = aNar .boolean (s0) (some (.inl (some (.int s0)), σ)) :=
  (aUn_eq (tkd G.1 G.2) tmi (aRun (tkd G.1 G.2) tmi tmt d) M_14 [] 1 (18, [some (.ref 126)], [.int s0], σ)).trans rfl
theorem q_14_6102 (G : Nat × (Nat → Int32)) (d : Nat)  (σ : aH) : Lq G d M_14 (6, [some (.ref 126)], [], σ) = Lq G d M_14 (10, [some (.ref 126)], [.int (0 : Int32)], σ) :=
  (aUn_eq (tkd G.1 G.2) tmi (aRun (tkd G.1 G.2) tmi tmt d) M_14 [] 2 (6, [some (.ref 126)], [], σ)).trans rfl
theorem q_14_6103 (G : Nat × (Nat → Int32)) (d : Nat) (s0 : Int32) (σ : aH) : Lq G d M_14 (10, [some (.ref 126)], [.int s0], σ) = if s0 = 0 then Lq G d M_14 (13, [some (.ref 126)], [], σ) else Lq G d M_14 (17, [some (.ref 126)], [], σ) :=
  (aUn_eq (tkd G.1 G.2) tmi (aRun (tkd G.1 G.2) tmi tmt d) M_14 [] 1 (10, [some (.ref 126)], [.int s0], σ)).trans rfl
theorem q_14_6104 (G : Nat × (Nat → Int32)) (d : Nat)  (σ : aH) : Lq G d M_14 (13, [some (.ref 126)], [], σ) = Lq G d M_14 (18, [some (.ref 126)], [.int (1 : Int32)], σ) :=
  (aUn_eq (tkd G.1 G.2) tmi (aRun (tkd G.1 G.2) tmi tmt d) M_14 [] 2 (13, [some (.ref 126)], [], σ)).trans rfl
theorem q_14_6105 (G : Nat × (Nat → Int32)) (d : Nat)  (σ : aH) : Lq G d M_14 (0, [some (.ref 128)], [], σ) = Lq G d M_14 (3, [some (.ref 128)], [.int (1 : Int32)], σ) :=
  (aUn_eq (tkd G.1 G.2) tmi (aRun (tkd G.1 G.2) tmi tmt d) M_14 [] 1 (0, [some (.ref 128)], [], σ)).trans rfl
theorem q_14_6106 (G : Nat × (Nat → Int32)) (d : Nat) (s0 : Int32) (σ : aH) : Lq G d M_14 (3, [some (.ref 128)], [.int s0], σ) = if s0 = 0 then Lq G d M_14 (17, [some (.ref 128)], [], σ) else Lq G d M_14 (6, [some (.ref 128)], [], σ) :=
  (aUn_eq (tkd G.1 G.2) tmi (aRun (tkd G.1 G.2) tmi tmt d) M_14 [] 1 (3, [some (.ref 128)], [.int s0], σ)).trans rfl
theorem q_14_6107 (G : Nat × (Nat → Int32)) (d : Nat)  (σ : aH) : Lq G d M_14 (17, [some (.ref 128)], [], σ) = Lq G d M_14 (18, [some (.ref 128)], [.int (0 : Int32)], σ) :=
  (aUn_eq (tkd G.1 G.2) tmi (aRun (tkd G.1 G.2) tmi tmt d) M_14 [] 1 (17, [some (.ref 128)], [], σ)).trans rfl
theorem q_14_6108 (G : Nat × (Nat → Int32)) (d : Nat) (s0 : Int32) (σ : aH) : Lq G d M_14 (18, [some (.ref 128)], [.int s0], σ) = aNar .boolean (s0) (some (.inl (some (.int s0)), σ)) :=
  (aUn_eq (tkd G.1 G.2) tmi (aRun (tkd G.1 G.2) tmi tmt d) M_14 [] 1 (18, [some (.ref 128)], [.int s0], σ)).trans rfl
theorem q_14_6109 (G : Nat × (Nat → Int32)) (d : Nat)  (σ : aH) : Lq G d M_14 (6, [some (.ref 128)], [], σ) = Lq G d M_14 (10, [some (.ref 128)], [.int (0 : Int32)], σ) :=
  (aUn_eq (tkd G.1 G.2) tmi (aRun (tkd G.1 G.2) tmi tmt d) M_14 [] 2 (6, [some (.ref 128)], [], σ)).trans rfl
theorem q_14_6110 (G : Nat × (Nat → Int32)) (d : Nat) (s0 : Int32) (σ : aH) : Lq G d M_14 (10, [some (.ref 128)], [.int s0], σ) = if s0 = 0 then Lq G d M_14 (13, [some (.ref 128)], [], σ) else Lq G d M_14 (17, [some (.ref 128)], [], σ) :=
  (aUn_eq (tkd G.1 G.2) tmi (aRun (tkd G.1 G.2) tmi tmt d) M_14 [] 1 (10, [some (.ref 128)], [.int s0], σ)).trans rfl
theorem q_14_6111 (G : Nat × (Nat → Int32)) (d : Nat)  (σ : aH) : Lq G d M_14 (13, [some (.ref 128)], [], σ) = Lq G d M_14 (18, [some (.ref 128)], [.int (1 : Int32)], σ) :=
  (aUn_eq (tkd G.1 G.2) tmi (aRun (tkd G.1 G.2) tmi tmt d) M_14 [] 2 (13, [some (.ref 128)], [], σ)).trans rfl
theorem q_27_6112 (G : Nat × (Nat → Int32)) (d : Nat) (rx0 : Nat) (x1 : Int32) (σ : aH) : Lq G d M_27 (0, [some (.ref rx0), some (.int x1)], [], σ) = Lq G d M_27 (2, [some (.ref rx0), some (.int x1)], [.ref rx0, .int x1], σ) :=
  (aUn_eq (tkd G.1 G.2) tmi (aRun (tkd G.1 G.2) tmi tmt d) M_27 [] 2 (0, [some (.ref rx0), some (.int x1)], [], σ)).trans rfl
theorem q_27_6113 (G : Nat × (Nat → Int32)) (d : Nat) (rx0 : Nat) (x1 : Int32) (rs0 : Nat) (s1 : Int32) (σ : aH) : Lq G d M_27 (2, [some (.ref rx0), some (.int x1)], [.ref rs0, .int s1], σ) = aLen (tkd G.1 G.2) rs0 fun n1 => Lq G d M_27 (3, [some (.ref rx0), some (.int x1)], [.int (Int32.ofNat n1), .int s1], σ) :=
  (aUn_eq (tkd G.1 G.2) tmi (aRun (tkd G.1 G.2) tmi tmt d) M_27 [] 1 (2, [some (.ref rx0), some (.int x1)], [.ref rs0, .int s1], σ)).trans rfl
theorem q_27_6114 (G : Nat × (Nat → Int32)) (d : Nat) (rx0 : Nat) (x1 : Int32) (s0 : Int32) (s1 : Int32) (σ : aH) : Lq G d M_27 (3, [some (.ref rx0), some (.int x1)], [.int s0, .int s1], σ) = aCV (Rn G d 28 [.int s1, .int s0] σ) fun σ1 => Lq G d M_27 (6, [some (.ref rx0), some (.int x1)], [], σ1) :=
  (aUn_eq (tkd G.1 G.2) tmi (aRun (tkd G.1 G.2) tmi tmt d) M_27 [] 1 (3, [some (.ref rx0), some (.int x1)], [.int s0, .int s1], σ)).trans rfl
theorem q_27_6115 (G : Nat × (Nat → Int32)) (d : Nat) (rx0 : Nat) (x1 : Int32) (σ : aH) : Lq G d M_27 (6, [some (.ref rx0), some (.int x1)], [], σ) = Lq G d M_27 (8, [some (.ref rx0), some (.int x1)], [.int x1, .ref rx0], σ) :=
  (aUn_eq (tkd G.1 G.2) tmi (aRun (tkd G.1 G.2) tmi tmt d) M_27 [] 2 (6, [some (.ref rx0), some (.int x1)], [], σ)).trans rfl
theorem q_27_6116 (G : Nat × (Nat → Int32)) (d : Nat) (rx0 : Nat) (x1 : Int32) (s0 : Int32) (rs1 : Nat) (σ : aH) : Lq G d M_27 (8, [some (.ref rx0), some (.int x1)], [.int s0, .ref rs1], σ) = aArB (tkd G.1 G.2) rs1 σ fun n2 f3 => aIx (s0) n2 fun j1 => Lq G d M_27 (9, [some (.ref rx0), some (.int x1)], [.int (f3 j1)], σ) :=
  (aUn_eq (tkd G.1 G.2) tmi (aRun (tkd G.1 G.2) tmi tmt d) M_27 [] 1 (8, [some (.ref rx0), some (.int x1)], [.int s0, .ref rs1], σ)).trans rfl
theorem q_27_6117 (G : Nat × (Nat → Int32)) (d : Nat) (rx0 : Nat) (x1 : Int32) (s0 : Int32) (σ : aH) : Lq G d M_27 (9, [some (.ref rx0), some (.int x1)], [.int s0], σ) = Lq G d M_27 (14, [some (.ref rx0), some (.int x1)], [.int (((s0 &&& (255 : Int32))).toUInt32 % 65536).toInt32], σ) :=
  (aUn_eq (tkd G.1 G.2) tmi (aRun (tkd G.1 G.2) tmi tmt d) M_27 [] 3 (9, [some (.ref rx0), some (.int x1)], [.int s0], σ)).trans rfl
theorem q_27_6118 (G : Nat × (Nat → Int32)) (d : Nat) (rx0 : Nat) (x1 : Int32) (s0 : Int32) (σ : aH) : Lq G d M_27 (14, [some (.ref rx0), some (.int x1)], [.int s0], σ) = aNar .char (s0) (some (.inl (some (.int s0)), σ)) :=
  (aUn_eq (tkd G.1 G.2) tmi (aRun (tkd G.1 G.2) tmi tmt d) M_27 [] 1 (14, [some (.ref rx0), some (.int x1)], [.int s0], σ)).trans rfl
theorem q_36_6119 (G : Nat × (Nat → Int32)) (d : Nat) (x1 : Int32) (x2 : Int32) (σ : aH) : Lq G d M_36 (0, [some (.ref 1), some (.int x1), some (.int x2), none], [], σ) = Lq G d M_36 (5, [some (.ref 1), some (.int x1), some (.int x2), none], [.int (2 : Int32), .int (σ.1 1 4)], σ) :=
  (aUn_eq (tkd G.1 G.2) tmi (aRun (tkd G.1 G.2) tmi tmt d) M_36 [] 3 (0, [some (.ref 1), some (.int x1), some (.int x2), none], [], σ)).trans rfl
theorem q_36_6120 (G : Nat × (Nat → Int32)) (d : Nat) (x1 : Int32) (x2 : Int32) (s0 : Int32) (s1 : Int32) (σ : aH) : Lq G d M_36 (5, [some (.ref 1), some (.int x1), some (.int x2), none], [.int s0, .int s1], σ) = if s1 = s0 then Lq G d M_36 (16, [some (.ref 1), some (.int x1), some (.int x2), none], [], σ) else Lq G d M_36 (8, [some (.ref 1), some (.int x1), some (.int x2), none], [], σ) :=
  (aUn_eq (tkd G.1 G.2) tmi (aRun (tkd G.1 G.2) tmi tmt d) M_36 [] 1 (5, [some (.ref 1), some (.int x1), some (.int x2), none], [.int s0, .int s1], σ)).trans rfl
theorem q_36_6121 (G : Nat × (Nat → Int32)) (d : Nat) (x1 : Int32) (x2 : Int32) (σ : aH) : Lq G d M_36 (16, [some (.ref 1), some (.int x1), some (.int x2), none], [], σ) = Lq G d M_36 (21, [some (.ref 1), some (.int x1), some (.int x2), none], [.int x1, .int (σ.1 1 5)], σ) :=
  (aUn_eq (tkd G.1 G.2) tmi (aRun (tkd G.1 G.2) tmi tmt d) M_36 [] 3 (16, [some (.ref 1), some (.int x1), some (.int x2), none], [], σ)).trans rfl
theorem q_36_6122 (G : Nat × (Nat → Int32)) (d : Nat) (x1 : Int32) (x2 : Int32) (s0 : Int32) (s1 : Int32) (σ : aH) : Lq G d M_36 (21, [some (.ref 1), some (.int x1), some (.int x2), none], [.int s0, .int s1], σ) = if s1 < s0 then Lq G d M_36 (32, [some (.ref 1), some (.int x1), some (.int x2), none], [], σ) else Lq G d M_36 (24, [some (.ref 1), some (.int x1), some (.int x2), none], [], σ) :=
  (aUn_eq (tkd G.1 G.2) tmi (aRun (tkd G.1 G.2) tmi tmt d) M_36 [] 1 (21, [some (.ref 1), some (.int x1), some (.int x2), none], [.int s0, .int s1], σ)).trans rfl
theorem q_36_6123 (G : Nat × (Nat → Int32)) (d : Nat) (x1 : Int32) (x2 : Int32) (σ : aH) : Lq G d M_36 (32, [some (.ref 1), some (.int x1), some (.int x2), none], [], σ) = Lq G d M_36 (34, [some (.ref 1), some (.int x1), some (.int x2), none], [.int (2 : Int32), .ref 1], σ) :=
  (aUn_eq (tkd G.1 G.2) tmi (aRun (tkd G.1 G.2) tmi tmt d) M_36 [] 2 (32, [some (.ref 1), some (.int x1), some (.int x2), none], [], σ)).trans rfl
theorem q_36_6124 (G : Nat × (Nat → Int32)) (d : Nat) (x1 : Int32) (x2 : Int32) (s0 : Int32) (σ : aH) : Lq G d M_36 (34, [some (.ref 1), some (.int x1), some (.int x2), none], [.int s0, .ref 1], σ) = aCV (Rn G d 30 [.ref 1, .int s0] σ) fun σ1 => Lq G d M_36 (37, [some (.ref 1), some (.int x1), some (.int x2), none], [], σ1) :=
  (aUn_eq (tkd G.1 G.2) tmi (aRun (tkd G.1 G.2) tmi tmt d) M_36 [] 1 (34, [some (.ref 1), some (.int x1), some (.int x2), none], [.int s0, .ref 1], σ)).trans rfl
theorem q_36_6125 (G : Nat × (Nat → Int32)) (d : Nat) (x1 : Int32) (x2 : Int32) (σ : aH) : Lq G d M_36 (37, [some (.ref 1), some (.int x1), some (.int x2), none], [], σ) = Lq G d M_36 (43, [some (.ref 1), some (.int x1), some (.int x2), some (.int (σ.1 1 5))], [.ref 1], σ) :=
  (aUn_eq (tkd G.1 G.2) tmi (aRun (tkd G.1 G.2) tmi tmt d) M_36 [] 4 (37, [some (.ref 1), some (.int x1), some (.int x2), none], [], σ)).trans rfl
theorem q_36_6126 (G : Nat × (Nat → Int32)) (d : Nat) (x1 : Int32) (x2 : Int32) (x3 : Int32) (σ : aH) : Lq G d M_36 (43, [some (.ref 1), some (.int x1), some (.int x2), some (.int x3)], [.ref 1], σ) = aCV (Rn G d 8 [.ref 1] σ) fun σ1 => Lq G d M_36 (46, [some (.ref 1), some (.int x1), some (.int x2), some (.int x3)], [], σ1) :=
  (aUn_eq (tkd G.1 G.2) tmi (aRun (tkd G.1 G.2) tmi tmt d) M_36 [] 1 (43, [some (.ref 1), some (.int x1), some (.int x2), some (.int x3)], [.ref 1], σ)).trans rfl
theorem q_36_6127 (G : Nat × (Nat → Int32)) (d : Nat) (x1 : Int32) (x2 : Int32) (x3 : Int32) (σ : aH) : Lq G d M_36 (46, [some (.ref 1), some (.int x1), some (.int x2), some (.int x3)], [], σ) = Lq G d M_36 (47, [some (.ref 1), some (.int x1), some (.int x2), some (.int x3)], [.int x3], σ) :=
  (aUn_eq (tkd G.1 G.2) tmi (aRun (tkd G.1 G.2) tmi tmt d) M_36 [] 1 (46, [some (.ref 1), some (.int x1), some (.int x2), some (.int x3)], [], σ)).trans rfl
