/-! ===== the methods in pieces, as equations (by wip/gen/emit_eqs2.py) ===== -/
set_option maxRecDepth 20000 in
theorem q_14_6000 (G : Nat × (Nat → Int32)) (d : Nat)  (σ : aH) : Lq G d M_14 (0, [some (.ref 98)], [], σ) = Lq G d M_14 (3, [some (.ref 98)], [.int (1 : Int32)], σ) :=
  (aUn_eq (tkd G.1 G.2) tmi (aRun (tkd G.1 G.2) tmi tmt d) M_14 [] 1 (0, [some (.ref 98)], [], σ)).trans rfl
set_option maxRecDepth 20000 in
theorem q_14_6001 (G : Nat × (Nat → Int32)) (d : Nat) (s0 : Int32) (σ : aH) : Lq G d M_14 (3, [some (.ref 98)], [.int s0], σ) = if s0 = 0 then Lq G d M_14 (17, [some (.ref 98)], [], σ) else Lq G d M_14 (6, [some (.ref 98)], [], σ) :=
  (aUn_eq (tkd G.1 G.2) tmi (aRun (tkd G.1 G.2) tmi tmt d) M_14 [] 1 (3, [some (.ref 98)], [.int s0], σ)).trans rfl
set_option maxRecDepth 20000 in
theorem q_14_6002 (G : Nat × (Nat → Int32)) (d : Nat)  (σ : aH) : Lq G d M_14 (17, [some (.ref 98)], [], σ) = Lq G d M_14 (18, [some (.ref 98)], [.int (0 : Int32)], σ) :=
  (aUn_eq (tkd G.1 G.2) tmi (aRun (tkd G.1 G.2) tmi tmt d) M_14 [] 1 (17, [some (.ref 98)], [], σ)).trans rfl
set_option maxRecDepth 20000 in
theorem q_14_6003 (G : Nat × (Nat → Int32)) (d : Nat) (s0 : Int32) (σ : aH) : Lq G d M_14 (18, [some (.ref 98)], [.int s0], σ) = aNar .boolean (s0) (some (.inl (some (.int s0)), σ)) :=
  (aUn_eq (tkd G.1 G.2) tmi (aRun (tkd G.1 G.2) tmi tmt d) M_14 [] 1 (18, [some (.ref 98)], [.int s0], σ)).trans rfl
set_option maxRecDepth 20000 in
theorem q_14_6004 (G : Nat × (Nat → Int32)) (d : Nat)  (σ : aH) : Lq G d M_14 (6, [some (.ref 98)], [], σ) = Lq G d M_14 (10, [some (.ref 98)], [.int (0 : Int32)], σ) :=
  (aUn_eq (tkd G.1 G.2) tmi (aRun (tkd G.1 G.2) tmi tmt d) M_14 [] 2 (6, [some (.ref 98)], [], σ)).trans rfl
set_option maxRecDepth 20000 in
theorem q_14_6005 (G : Nat × (Nat → Int32)) (d : Nat) (s0 : Int32) (σ : aH) : Lq G d M_14 (10, [some (.ref 98)], [.int s0], σ) = if s0 = 0 then Lq G d M_14 (13, [some (.ref 98)], [], σ) else Lq G d M_14 (17, [some (.ref 98)], [], σ) :=
  (aUn_eq (tkd G.1 G.2) tmi (aRun (tkd G.1 G.2) tmi tmt d) M_14 [] 1 (10, [some (.ref 98)], [.int s0], σ)).trans rfl
set_option maxRecDepth 20000 in
theorem q_14_6006 (G : Nat × (Nat → Int32)) (d : Nat)  (σ : aH) : Lq G d M_14 (13, [some (.ref 98)], [], σ) = Lq G d M_14 (18, [some (.ref 98)], [.int (1 : Int32)], σ) :=
  (aUn_eq (tkd G.1 G.2) tmi (aRun (tkd G.1 G.2) tmi tmt d) M_14 [] 2 (13, [some (.ref 98)], [], σ)).trans rfl
set_option maxRecDepth 20000 in
theorem q_14_6007 (G : Nat × (Nat → Int32)) (d : Nat)  (σ : aH) : Lq G d M_14 (0, [some (.ref 100)], [], σ) = Lq G d M_14 (3, [some (.ref 100)], [.int (1 : Int32)], σ) :=
  (aUn_eq (tkd G.1 G.2) tmi (aRun (tkd G.1 G.2) tmi tmt d) M_14 [] 1 (0, [some (.ref 100)], [], σ)).trans rfl
set_option maxRecDepth 20000 in
theorem q_14_6008 (G : Nat × (Nat → Int32)) (d : Nat) (s0 : Int32) (σ : aH) : Lq G d M_14 (3, [some (.ref 100)], [.int s0], σ) = if s0 = 0 then Lq G d M_14 (17, [some (.ref 100)], [], σ) else Lq G d M_14 (6, [some (.ref 100)], [], σ) :=
  (aUn_eq (tkd G.1 G.2) tmi (aRun (tkd G.1 G.2) tmi tmt d) M_14 [] 1 (3, [some (.ref 100)], [.int s0], σ)).trans rfl
set_option maxRecDepth 20000 in
theorem q_14_6009 (G : Nat × (Nat → Int32)) (d : Nat)  (σ : aH) : Lq G d M_14 (17, [some (.ref 100)], [], σ) = Lq G d M_14 (18, [some (.ref 100)], [.int (0 : Int32)], σ) :=
  (aUn_eq (tkd G.1 G.2) tmi (aRun (tkd G.1 G.2) tmi tmt d) M_14 [] 1 (17, [some (.ref 100)], [], σ)).trans rfl
set_option maxRecDepth 20000 in
theorem q_14_6010 (G : Nat × (Nat → Int32)) (d : Nat) (s0 : Int32) (σ : aH) : Lq G d M_14 (18, [some (.ref 100)], [.int s0], σ) = aNar .boolean (s0) (some (.inl (some (.int s0)), σ)) :=
  (aUn_eq (tkd G.1 G.2) tmi (aRun (tkd G.1 G.2) tmi tmt d) M_14 [] 1 (18, [some (.ref 100)], [.int s0], σ)).trans rfl
set_option maxRecDepth 20000 in
theorem q_14_6011 (G : Nat × (Nat → Int32)) (d : Nat)  (σ : aH) : Lq G d M_14 (6, [some (.ref 100)], [], σ) = Lq G d M_14 (10, [some (.ref 100)], [.int (0 : Int32)], σ) :=
  (aUn_eq (tkd G.1 G.2) tmi (aRun (tkd G.1 G.2) tmi tmt d) M_14 [] 2 (6, [some (.ref 100)], [], σ)).trans rfl
set_option maxRecDepth 20000 in
theorem q_14_6012 (G : Nat × (Nat → Int32)) (d : Nat) (s0 : Int32) (σ : aH) : Lq G d M_14 (10, [some (.ref 100)], [.int s0], σ) = if s0 = 0 then Lq G d M_14 (13, [some (.ref 100)], [], σ) else Lq G d M_14 (17, [some (.ref 100)], [], σ) :=
  (aUn_eq (tkd G.1 G.2) tmi (aRun (tkd G.1 G.2) tmi tmt d) M_14 [] 1 (10, [some (.ref 100)], [.int s0], σ)).trans rfl
set_option maxRecDepth 20000 in
theorem q_14_6013 (G : Nat × (Nat → Int32)) (d : Nat)  (σ : aH) : Lq G d M_14 (13, [some (.ref 100)], [], σ) = Lq G d M_14 (18, [some (.ref 100)], [.int (1 : Int32)], σ) :=
  (aUn_eq (tkd G.1 G.2) tmi (aRun (tkd G.1 G.2) tmi tmt d) M_14 [] 2 (13, [some (.ref 100)], [], σ)).trans rfl
set_option maxRecDepth 20000 in
theorem q_14_6014 (G : Nat × (Nat → Int32)) (d : Nat)  (σ : aH) : Lq G d M_14 (0, [some (.ref 102)], [], σ) = Lq G d M_14 (3, [some (.ref 102)], [.int (1 : Int32)], σ) :=
  (aUn_eq (tkd G.1 G.2) tmi (aRun (tkd G.1 G.2) tmi tmt d) M_14 [] 1 (0, [some (.ref 102)], [], σ)).trans rfl
set_option maxRecDepth 20000 in
theorem q_14_6015 (G : Nat × (Nat → Int32)) (d : Nat) (s0 : Int32) (σ : aH) : Lq G d M_14 (3, [some (.ref 102)], [.int s0], σ) = if s0 = 0 then Lq G d M_14 (17, [some (.ref 102)], [], σ) else Lq G d M_14 (6, [some (.ref 102)], [], σ) :=
  (aUn_eq (tkd G.1 G.2) tmi (aRun (tkd G.1 G.2) tmi tmt d) M_14 [] 1 (3, [some (.ref 102)], [.int s0], σ)).trans rfl
set_option maxRecDepth 20000 in
theorem q_14_6016 (G : Nat × (Nat → Int32)) (d : Nat)  (σ : aH) : Lq G d M_14 (17, [some (.ref 102)], [], σ) = Lq G d M_14 (18, [some (.ref 102)], [.int (0 : Int32)], σ) :=
  (aUn_eq (tkd G.1 G.2) tmi (aRun (tkd G.1 G.2) tmi tmt d) M_14 [] 1 (17, [some (.ref 102)], [], σ)).trans rfl
set_option maxRecDepth 20000 in
theorem q_14_6017 (G : Nat × (Nat → Int32)) (d : Nat) (s0 : Int32) (σ : aH) : Lq G d M_14 (18, [some (.ref 102)], [.int s0], σ) = aNar .boolean (s0) (some (.inl (some (.int s0)), σ)) :=
  (aUn_eq (tkd G.1 G.2) tmi (aRun (tkd G.1 G.2) tmi tmt d) M_14 [] 1 (18, [some (.ref 102)], [.int s0], σ)).trans rfl
set_option maxRecDepth 20000 in
theorem q_14_6018 (G : Nat × (Nat → Int32)) (d : Nat)  (σ : aH) : Lq G d M_14 (6, [some (.ref 102)], [], σ) = Lq G d M_14 (10, [some (.ref 102)], [.int (0 : Int32)], σ) :=
  (aUn_eq (tkd G.1 G.2) tmi (aRun (tkd G.1 G.2) tmi tmt d) M_14 [] 2 (6, [some (.ref 102)], [], σ)).trans rfl
set_option maxRecDepth 20000 in
theorem q_14_6019 (G : Nat × (Nat → Int32)) (d : Nat) (s0 : Int32) (σ : aH) : Lq G d M_14 (10, [some (.ref 102)], [.int s0], σ) = if s0 = 0 then Lq G d M_14 (13, [some (.ref 102)], [], σ) else Lq G d M_14 (17, [some (.ref 102)], [], σ) :=
  (aUn_eq (tkd G.1 G.2) tmi (aRun (tkd G.1 G.2) tmi tmt d) M_14 [] 1 (10, [some (.ref 102)], [.int s0], σ)).trans rfl
set_option maxRecDepth 20000 in
theorem q_14_6020 (G : Nat × (Nat → Int32)) (d : Nat)  (σ : aH) : Lq G d M_14 (13, [some (.ref 102)], [], σ) = Lq G d M_14 (18, [some (.ref 102)], [.int (1 : Int32)], σ) :=
  (aUn_eq (tkd G.1 G.2) tmi (aRun (tkd G.1 G.2) tmi tmt d) M_14 [] 2 (13, [some (.ref 102)], [], σ)).trans rfl
set_option maxRecDepth 20000 in
theorem q_14_6021 (G : Nat × (Nat → Int32)) (d : Nat)  (σ : aH) : Lq G d M_14 (0, [some (.ref 104)], [], σ) = Lq G d M_14 (3, [some (.ref 104)], [.int (1 : Int32)], σ) :=
  (aUn_eq (tkd G.1 G.2) tmi (aRun (tkd G.1 G.2) tmi tmt d) M_14 [] 1 (0, [some (.ref 104)], [], σ)).trans rfl
set_option maxRecDepth 20000 in
theorem q_14_6022 (G : Nat × (Nat → Int32)) (d : Nat) (s0 : Int32) (σ : aH) : Lq G d M_14 (3, [some (.ref 104)], [.int s0], σ) = if s0 = 0 then Lq G d M_14 (17, [some (.ref 104)], [], σ) else Lq G d M_14 (6, [some (.ref 104)], [], σ) :=
  (aUn_eq (tkd G.1 G.2) tmi (aRun (tkd G.1 G.2) tmi tmt d) M_14 [] 1 (3, [some (.ref 104)], [.int s0], σ)).trans rfl
set_option maxRecDepth 20000 in
theorem q_14_6023 (G : Nat × (Nat → Int32)) (d : Nat)  (σ : aH) : Lq G d M_14 (17, [some (.ref 104)], [], σ) = Lq G d M_14 (18, [some (.ref 104)], [.int (0 : Int32)], σ) :=
  (aUn_eq (tkd G.1 G.2) tmi (aRun (tkd G.1 G.2) tmi tmt d) M_14 [] 1 (17, [some (.ref 104)], [], σ)).trans rfl
set_option maxRecDepth 20000 in
theorem q_14_6024 (G : Nat × (Nat → Int32)) (d : Nat) (s0 : Int32) (σ : aH) : Lq G d M_14 (18, [some (.ref 104)], [.int s0], σ) = aNar .boolean (s0) (some (.inl (some (.int s0)), σ)) :=
  (aUn_eq (tkd G.1 G.2) tmi (aRun (tkd G.1 G.2) tmi tmt d) M_14 [] 1 (18, [some (.ref 104)], [.int s0], σ)).trans rfl
set_option maxRecDepth 20000 in
theorem q_14_6025 (G : Nat × (Nat → Int32)) (d : Nat)  (σ : aH) : Lq G d M_14 (6, [some (.ref 104)], [], σ) = Lq G d M_14 (10, [some (.ref 104)], [.int (0 : Int32)], σ) :=
  (aUn_eq (tkd G.1 G.2) tmi (aRun (tkd G.1 G.2) tmi tmt d) M_14 [] 2 (6, [some (.ref 104)], [], σ)).trans rfl
set_option maxRecDepth 20000 in
theorem q_14_6026 (G : Nat × (Nat → Int32)) (d : Nat) (s0 : Int32) (σ : aH) : Lq G d M_14 (10, [some (.ref 104)], [.int s0], σ) = if s0 = 0 then Lq G d M_14 (13, [some (.ref 104)], [], σ) else Lq G d M_14 (17, [some (.ref 104)], [], σ) :=
  (aUn_eq (tkd G.1 G.2) tmi (aRun (tkd G.1 G.2) tmi tmt d) M_14 [] 1 (10, [some (.ref 104)], [.int s0], σ)).trans rfl
set_option maxRecDepth 20000 in
theorem q_14_6027 (G : Nat × (Nat → Int32)) (d : Nat)  (σ : aH) : Lq G d M_14 (13, [some (.ref 104)], [], σ) = Lq G d M_14 (18, [some (.ref 104)], [.int (1 : Int32)], σ) :=
  (aUn_eq (tkd G.1 G.2) tmi (aRun (tkd G.1 G.2) tmi tmt d) M_14 [] 2 (13, [some (.ref 104)], [], σ)).trans rfl
set_option maxRecDepth 20000 in
theorem q_14_6028 (G : Nat × (Nat → Int32)) (d : Nat)  (σ : aH) : Lq G d M_14 (0, [some (.ref 106)], [], σ) = Lq G d M_14 (3, [some (.ref 106)], [.int (1 : Int32)], σ) :=
  (aUn_eq (tkd G.1 G.2) tmi (aRun (tkd G.1 G.2) tmi tmt d) M_14 [] 1 (0, [some (.ref 106)], [], σ)).trans rfl
set_option maxRecDepth 20000 in
theorem q_14_6029 (G : Nat × (Nat → Int32)) (d : Nat) (s0 : Int32) (σ : aH) : Lq G d M_14 (3, [some (.ref 106)], [.int s0], σ) = if s0 = 0 then Lq G d M_14 (17, [some (.ref 106)], [], σ) else Lq G d M_14 (6, [some (.ref 106)], [], σ) :=
  (aUn_eq (tkd G.1 G.2) tmi (aRun (tkd G.1 G.2) tmi tmt d) M_14 [] 1 (3, [some (.ref 106)], [.int s0], σ)).trans rfl
set_option maxRecDepth 20000 in
theorem q_14_6030 (G : Nat × (Nat → Int32)) (d : Nat)  (σ : aH) : Lq G d M_14 (17, [some (.ref 106)], [], σ) = Lq G d M_14 (18, [some (.ref 106)], [.int (0 : Int32)], σ) :=
  (aUn_eq (tkd G.1 G.2) tmi (aRun (tkd G.1 G.2) tmi tmt d) M_14 [] 1 (17, [some (.ref 106)], [], σ)).trans rfl
set_option maxRecDepth 20000 in
theorem q_14_6031 (G : Nat × (Nat → Int32)) (d : Nat) (s0 : Int32) (σ : aH) : Lq G d M_14 (18, [some (.ref 106)], [.int s0], σ) = aNar .boolean (s0) (some (.inl (some (.int s0)), σ)) :=
  (aUn_eq (tkd G.1 G.2) tmi (aRun (tkd G.1 G.2) tmi tmt d) M_14 [] 1 (18, [some (.ref 106)], [.int s0], σ)).trans rfl
set_option maxRecDepth 20000 in
theorem q_14_6032 (G : Nat × (Nat → Int32)) (d : Nat)  (σ : aH) : Lq G d M_14 (6, [some (.ref 106)], [], σ) = Lq G d M_14 (10, [some (.ref 106)], [.int (0 : Int32)], σ) :=
  (aUn_eq (tkd G.1 G.2) tmi (aRun (tkd G.1 G.2) tmi tmt d) M_14 [] 2 (6, [some (.ref 106)], [], σ)).trans rfl
set_option maxRecDepth 20000 in
theorem q_14_6033 (G : Nat × (Nat → Int32)) (d : Nat) (s0 : Int32) (σ : aH) : Lq G d M_14 (10, [some (.ref 106)], [.int s0], σ) = if s0 = 0 then Lq G d M_14 (13, [some (.ref 106)], [], σ) else Lq G d M_14 (17, [some (.ref 106)], [], σ) :=
  (aUn_eq (tkd G.1 G.2) tmi (aRun (tkd G.1 G.2) tmi tmt d) M_14 [] 1 (10, [some (.ref 106)], [.int s0], σ)).trans rfl
set_option maxRecDepth 20000 in
theorem q_14_6034 (G : Nat × (Nat → Int32)) (d : Nat)  (σ : aH) : Lq G d M_14 (13, [some (.ref 106)], [], σ) = Lq G d M_14 (18, [some (.ref 106)], [.int (1 : Int32)], σ) :=
  (aUn_eq (tkd G.1 G.2) tmi (aRun (tkd G.1 G.2) tmi tmt d) M_14 [] 2 (13, [some (.ref 106)], [], σ)).trans rfl
set_option maxRecDepth 20000 in
theorem q_14_6035 (G : Nat × (Nat → Int32)) (d : Nat)  (σ : aH) : Lq G d M_14 (0, [some (.ref 108)], [], σ) = Lq G d M_14 (3, [some (.ref 108)], [.int (1 : Int32)], σ) :=
  (aUn_eq (tkd G.1 G.2) tmi (aRun (tkd G.1 G.2) tmi tmt d) M_14 [] 1 (0, [some (.ref 108)], [], σ)).trans rfl
set_option maxRecDepth 20000 in
theorem q_14_6036 (G : Nat × (Nat → Int32)) (d : Nat) (s0 : Int32) (σ : aH) : Lq G d M_14 (3, [some (.ref 108)], [.int s0], σ) = if s0 = 0 then Lq G d M_14 (17, [some (.ref 108)], [], σ) else Lq G d M_14 (6, [some (.ref 108)], [], σ) :=
  (aUn_eq (tkd G.1 G.2) tmi (aRun (tkd G.1 G.2) tmi tmt d) M_14 [] 1 (3, [some (.ref 108)], [.int s0], σ)).trans rfl
set_option maxRecDepth 20000 in
theorem q_14_6037 (G : Nat × (Nat → Int32)) (d : Nat)  (σ : aH) : Lq G d M_14 (17, [some (.ref 108)], [], σ) = Lq G d M_14 (18, [some (.ref 108)], [.int (0 : Int32)], σ) :=
  (aUn_eq (tkd G.1 G.2) tmi (aRun (tkd G.1 G.2) tmi tmt d) M_14 [] 1 (17, [some (.ref 108)], [], σ)).trans rfl
set_option maxRecDepth 20000 in
theorem q_14_6038 (G : Nat × (Nat → Int32)) (d : Nat) (s0 : Int32) (σ : aH) : Lq G d M_14 (18, [some (.ref 108)], [.int s0], σ) = aNar .boolean (s0) (some (.inl (some (.int s0)), σ)) :=
  (aUn_eq (tkd G.1 G.2) tmi (aRun (tkd G.1 G.2) tmi tmt d) M_14 [] 1 (18, [some (.ref 108)], [.int s0], σ)).trans rfl
set_option maxRecDepth 20000 in
theorem q_14_6039 (G : Nat × (Nat → Int32)) (d : Nat)  (σ : aH) : Lq G d M_14 (6, [some (.ref 108)], [], σ) = Lq G d M_14 (10, [some (.ref 108)], [.int (0 : Int32)], σ) :=
  (aUn_eq (tkd G.1 G.2) tmi (aRun (tkd G.1 G.2) tmi tmt d) M_14 [] 2 (6, [some (.ref 108)], [], σ)).trans rfl
set_option maxRecDepth 20000 in
theorem q_14_6040 (G : Nat × (Nat → Int32)) (d : Nat) (s0 : Int32) (σ : aH) : Lq G d M_14 (10, [some (.ref 108)], [.int s0], σ) = if s0 = 0 then Lq G d M_14 (13, [some (.ref 108)], [], σ) else Lq G d M_14 (17, [some (.ref 108)], [], σ) :=
  (aUn_eq (tkd G.1 G.2) tmi (aRun (tkd G.1 G.2) tmi tmt d) M_14 [] 1 (10, [some (.ref 108)], [.int s0], σ)).trans rfl
set_option maxRecDepth 20000 in
theorem q_14_6041 (G : Nat × (Nat → Int32)) (d : Nat)  (σ : aH) : Lq G d M_14 (13, [some (.ref 108)], [], σ) = Lq G d M_14 (18, [some (.ref 108)], [.int (1 : Int32)], σ) :=
  (aUn_eq (tkd G.1 G.2) tmi (aRun (tkd G.1 G.2) tmi tmt d) M_14 [] 2 (13, [some (.ref 108)], [], σ)).trans rfl
set_option maxRecDepth 20000 in
theorem q_14_6042 (G : Nat × (Nat → Int32)) (d : Nat)  (σ : aH) : Lq G d M_14 (0, [some (.ref 110)], [], σ) = Lq G d M_14 (3, [some (.ref 110)], [.int (1 : Int32)], σ) :=
  (aUn_eq (tkd G.1 G.2) tmi (aRun (tkd G.1 G.2) tmi tmt d) M_14 [] 1 (0, [some (.ref 110)], [], σ)).trans rfl
set_option maxRecDepth 20000 in
theorem q_14_6043 (G : Nat × (Nat → Int32)) (d : Nat) (s0 : Int32) (σ : aH) : Lq G d M_14 (3, [some (.ref 110)], [.int s0], σ) = if s0 = 0 then Lq G d M_14 (17, [some (.ref 110)], [], σ) else Lq G d M_14 (6, [some (.ref 110)], [], σ) :=
  (aUn_eq (tkd G.1 G.2) tmi (aRun (tkd G.1 G.2) tmi tmt d) M_14 [] 1 (3, [some (.ref 110)], [.int s0], σ)).trans rfl
set_option maxRecDepth 20000 in
theorem q_14_6044 (G : Nat × (Nat → Int32)) (d : Nat)  (σ : aH) : Lq G d M_14 (17, [some (.ref 110)], [], σ) = Lq G d M_14 (18, [some (.ref 110)], [.int (0 : Int32)], σ) :=
  (aUn_eq (tkd G.1 G.2) tmi (aRun (tkd G.1 G.2) tmi tmt d) M_14 [] 1 (17, [some (.ref 110)], [], σ)).trans rfl
set_option maxRecDepth 20000 in
theorem q_14_6045 (G : Nat × (Nat → Int32)) (d : Nat) (s0 : Int32) (σ : aH) : Lq G d M_14 (18, [some (.ref 110)], [.int s0], σ) = aNar .boolean (s0) (some (.inl (some (.int s0)), σ)) :=
  (aUn_eq (tkd G.1 G.2) tmi (aRun (tkd G.1 G.2) tmi tmt d) M_14 [] 1 (18, [some (.ref 110)], [.int s0], σ)).trans rfl
set_option maxRecDepth 20000 in
theorem q_14_6046 (G : Nat × (Nat → Int32)) (d : Nat)  (σ : aH) : Lq G d M_14 (6, [some (.ref 110)], [], σ) = Lq G d M_14 (10, [some (.ref 110)], [.int (0 : Int32)], σ) :=
  (aUn_eq (tkd G.1 G.2) tmi (aRun (tkd G.1 G.2) tmi tmt d) M_14 [] 2 (6, [some (.ref 110)], [], σ)).trans rfl
set_option maxRecDepth 20000 in
theorem q_14_6047 (G : Nat × (Nat → Int32)) (d : Nat) (s0 : Int32) (σ : aH) : Lq G d M_14 (10, [some (.ref 110)], [.int s0], σ) = if s0 = 0 then Lq G d M_14 (13, [some (.ref 110)], [], σ) else Lq G d M_14 (17, [some (.ref 110)], [], σ) :=
  (aUn_eq (tkd G.1 G.2) tmi (aRun (tkd G.1 G.2) tmi tmt d) M_14 [] 1 (10, [some (.ref 110)], [.int s0], σ)).trans rfl
set_option maxRecDepth 20000 in
theorem q_14_6048 (G : Nat × (Nat → Int32)) (d : Nat)  (σ : aH) : Lq G d M_14 (13, [some (.ref 110)], [], σ) = Lq G d M_14 (18, [some (.ref 110)], [.int (1 : Int32)], σ) :=
  (aUn_eq (tkd G.1 G.2) tmi (aRun (tkd G.1 G.2) tmi tmt d) M_14 [] 2 (13, [some (.ref 110)], [], σ)).trans rfl
set_option maxRecDepth 20000 in
theorem q_14_6049 (G : Nat × (Nat → Int32)) (d : Nat)  (σ : aH) : Lq G d M_14 (0, [some (.ref 112)], [], σ) = Lq G d M_14 (3, [some (.ref 112)], [.int (1 : Int32)], σ) :=
  (aUn_eq (tkd G.1 G.2) tmi (aRun (tkd G.1 G.2) tmi tmt d) M_14 [] 1 (0, [some (.ref 112)], [], σ)).trans rfl
set_option maxRecDepth 20000 in
theorem q_14_6050 (G : Nat × (Nat → Int32)) (d : Nat) (s0 : Int32) (σ : aH) : Lq G d M_14 (3, [some (.ref 112)], [.int s0], σ) = if s0 = 0 then Lq G d M_14 (17, [some (.ref 112)], [], σ) else Lq G d M_14 (6, [some (.ref 112)], [], σ) :=
  (aUn_eq (tkd G.1 G.2) tmi (aRun (tkd G.1 G.2) tmi tmt d) M_14 [] 1 (3, [some (.ref 112)], [.int s0], σ)).trans rfl
set_option maxRecDepth 20000 in
theorem q_14_6051 (G : Nat × (Nat → Int32)) (d : Nat)  (σ : aH) : Lq G d M_14 (17, [some (.ref 112)], [], σ) = Lq G d M_14 (18, [some (.ref 112)], [.int (0 : Int32)], σ) :=
  (aUn_eq (tkd G.1 G.2) tmi (aRun (tkd G.1 G.2) tmi tmt d) M_14 [] 1 (17, [some (.ref 112)], [], σ)).trans rfl
set_option maxRecDepth 20000 in
theorem q_14_6052 (G : Nat × (Nat → Int32)) (d : Nat) (s0 : Int32) (σ : aH) : Lq G d M_14 (18, [some (.ref 112)], [.int s0], σ) = aNar .boolean (s0) (some (.inl (some (.int s0)), σ)) :=
  (aUn_eq (tkd G.1 G.2) tmi (aRun (tkd G.1 G.2) tmi tmt d) M_14 [] 1 (18, [some (.ref 112)], [.int s0], σ)).trans rfl
set_option maxRecDepth 20000 in
theorem q_14_6053 (G : Nat × (Nat → Int32)) (d : Nat)  (σ : aH) : Lq G d M_14 (6, [some (.ref 112)], [], σ) = Lq G d M_14 (10, [some (.ref 112)], [.int (0 : Int32)], σ) :=
  (aUn_eq (tkd G.1 G.2) tmi (aRun (tkd G.1 G.2) tmi tmt d) M_14 [] 2 (6, [some (.ref 112)], [], σ)).trans rfl
set_option maxRecDepth 20000 in
theorem q_14_6054 (G : Nat × (Nat → Int32)) (d : Nat) (s0 : Int32) (σ : aH) : Lq G d M_14 (10, [some (.ref 112)], [.int s0], σ) = if s0 = 0 then Lq G d M_14 (13, [some (.ref 112)], [], σ) else Lq G d M_14 (17, [some (.ref 112)], [], σ) :=
  (aUn_eq (tkd G.1 G.2) tmi (aRun (tkd G.1 G.2) tmi tmt d) M_14 [] 1 (10, [some (.ref 112)], [.int s0], σ)).trans rfl
set_option maxRecDepth 20000 in
theorem q_14_6055 (G : Nat × (Nat → Int32)) (d : Nat)  (σ : aH) : Lq G d M_14 (13, [some (.ref 112)], [], σ) = Lq G d M_14 (18, [some (.ref 112)], [.int (1 : Int32)], σ) :=
  (aUn_eq (tkd G.1 G.2) tmi (aRun (tkd G.1 G.2) tmi tmt d) M_14 [] 2 (13, [some (.ref 112)], [], σ)).trans rfl
set_option maxRecDepth 20000 in
theorem q_14_6056 (G : Nat × (Nat → Int32)) (d : Nat)  (σ : aH) : Lq G d M_14 (0, [some (.ref 114)], [], σ) = Lq G d M_14 (3, [some (.ref 114)], [.int (1 : Int32)], σ) :=
  (aUn_eq (tkd G.1 G.2) tmi (aRun (tkd G.1 G.2) tmi tmt d) M_14 [] 1 (0, [some (.ref 114)], [], σ)).trans rfl
set_option maxRecDepth 20000 in
theorem q_14_6057 (G : Nat × (Nat → Int32)) (d : Nat) (s0 : Int32) (σ : aH) : Lq G d M_14 (3, [some (.ref 114)], [.int s0], σ) = if s0 = 0 then Lq G d M_14 (17, [some (.ref 114)], [], σ) else Lq G d M_14 (6, [some (.ref 114)], [], σ) :=
  (aUn_eq (tkd G.1 G.2) tmi (aRun (tkd G.1 G.2) tmi tmt d) M_14 [] 1 (3, [some (.ref 114)], [.int s0], σ)).trans rfl
set_option maxRecDepth 20000 in
theorem q_14_6058 (G : Nat × (Nat → Int32)) (d : Nat)  (σ : aH) : Lq G d M_14 (17, [some (.ref 114)], [], σ) = Lq G d M_14 (18, [some (.ref 114)], [.int (0 : Int32)], σ) :=
  (aUn_eq (tkd G.1 G.2) tmi (aRun (tkd G.1 G.2) tmi tmt d) M_14 [] 1 (17, [some (.ref 114)], [], σ)).trans rfl
set_option maxRecDepth 20000 in
theorem q_14_6059 (G : Nat × (Nat → Int32)) (d : Nat) (s0 : Int32) (σ : aH) : Lq G d M_14 (18, [some (.ref 114)], [.int s0], σ) = aNar .boolean (s0) (some (.inl (some (.int s0)), σ)) :=
  (aUn_eq (tkd G.1 G.2) tmi (aRun (tkd G.1 G.2) tmi tmt d) M_14 [] 1 (18, [some (.ref 114)], [.int s0], σ)).trans rfl
set_option maxRecDepth 20000 in
theorem q_14_6060 (G : Nat × (Nat → Int32)) (d : Nat)  (σ : aH) : Lq G d M_14 (6, [some (.ref 114)], [], σ) = Lq G d M_14 (10, [some (.ref 114)], [.int (0 : Int32)], σ) :=
  (aUn_eq (tkd G.1 G.2) tmi (aRun (tkd G.1 G.2) tmi tmt d) M_14 [] 2 (6, [some (.ref 114)], [], σ)).trans rfl
set_option maxRecDepth 20000 in
theorem q_14_6061 (G : Nat × (Nat → Int32)) (d : Nat) (s0 : Int32) (σ : aH) : Lq G d M_14 (10, [some (.ref 114)], [.int s0], σ) = if s0 = 0 then Lq G d M_14 (13, [some (.ref 114)], [], σ) else Lq G d M_14 (17, [some (.ref 114)], [], σ) :=
  (aUn_eq (tkd G.1 G.2) tmi (aRun (tkd G.1 G.2) tmi tmt d) M_14 [] 1 (10, [some (.ref 114)], [.int s0], σ)).trans rfl
set_option maxRecDepth 20000 in
theorem q_14_6062 (G : Nat × (Nat → Int32)) (d : Nat)  (σ : aH) : Lq G d M_14 (13, [some (.ref 114)], [], σ) = Lq G d M_14 (18, [some (.ref 114)], [.int (1 : Int32)], σ) :=
  (aUn_eq (tkd G.1 G.2) tmi (aRun (tkd G.1 G.2) tmi tmt d) M_14 [] 2 (13, [some (.ref 114)], [], σ)).trans rfl
set_option maxRecDepth 20000 in
theorem q_14_6063 (G : Nat × (Nat → Int32)) (d : Nat)  (σ : aH) : Lq G d M_14 (0, [some (.ref 116)], [], σ) = Lq G d M_14 (3, [some (.ref 116)], [.int (1 : Int32)], σ) :=
  (aUn_eq (tkd G.1 G.2) tmi (aRun (tkd G.1 G.2) tmi tmt d) M_14 [] 1 (0, [some (.ref 116)], [], σ)).trans rfl
set_option maxRecDepth 20000 in
theorem q_14_6064 (G : Nat × (Nat → Int32)) (d : Nat) (s0 : Int32) (σ : aH) : Lq G d M_14 (3, [some (.ref 116)], [.int s0], σ) = if s0 = 0 then Lq G d M_14 (17, [some (.ref 116)], [], σ) else Lq G d M_14 (6, [some (.ref 116)], [], σ) :=
  (aUn_eq (tkd G.1 G.2) tmi (aRun (tkd G.1 G.2) tmi tmt d) M_14 [] 1 (3, [some (.ref 116)], [.int s0], σ)).trans rfl
set_option maxRecDepth 20000 in
theorem q_14_6065 (G : Nat × (Nat → Int32)) (d : Nat)  (σ : aH) : Lq G d M_14 (17, [some (.ref 116)], [], σ) = Lq G d M_14 (18, [some (.ref 116)], [.int (0 : Int32)], σ) :=
  (aUn_eq (tkd G.1 G.2) tmi (aRun (tkd G.1 G.2) tmi tmt d) M_14 [] 1 (17, [some (.ref 116)], [], σ)).trans rfl
set_option maxRecDepth 20000 in
theorem q_14_6066 (G : Nat × (Nat → Int32)) (d : Nat) (s0 : Int32) (σ : aH) : Lq G d M_14 (18, [some (.ref 116)], [.int s0], σ) = aNar .boolean (s0) (some (.inl (some (.int s0)), σ)) :=
  (aUn_eq (tkd G.1 G.2) tmi (aRun (tkd G.1 G.2) tmi tmt d) M_14 [] 1 (18, [some (.ref 116)], [.int s0], σ)).trans rfl
set_option maxRecDepth 20000 in
theorem q_14_6067 (G : Nat × (Nat → Int32)) (d : Nat)  (σ : aH) : Lq G d M_14 (6, [some (.ref 116)], [], σ) = Lq G d M_14 (10, [some (.ref 116)], [.int (0 : Int32)], σ) :=
  (aUn_eq (tkd G.1 G.2) tmi (aRun (tkd G.1 G.2) tmi tmt d) M_14 [] 2 (6, [some (.ref 116)], [], σ)).trans rfl
set_option maxRecDepth 20000 in
theorem q_14_6068 (G : Nat × (Nat → Int32)) (d : Nat) (s0 : Int32) (σ : aH) : Lq G d M_14 (10, [some (.ref 116)], [.int s0], σ) = if s0 = 0 then Lq G d M_14 (13, [some (.ref 116)], [], σ) else Lq G d M_14 (17, [some (.ref 116)], [], σ) :=
  (aUn_eq (tkd G.1 G.2) tmi (aRun (tkd G.1 G.2) tmi tmt d) M_14 [] 1 (10, [some (.ref 116)], [.int s0], σ)).trans rfl
set_option maxRecDepth 20000 in
theorem q_14_6069 (G : Nat × (Nat → Int32)) (d : Nat)  (σ : aH) : Lq G d M_14 (13, [some (.ref 116)], [], σ) = Lq G d M_14 (18, [some (.ref 116)], [.int (1 : Int32)], σ) :=
  (aUn_eq (tkd G.1 G.2) tmi (aRun (tkd G.1 G.2) tmi tmt d) M_14 [] 2 (13, [some (.ref 116)], [], σ)).trans rfl
set_option maxRecDepth 20000 in
theorem q_14_6070 (G : Nat × (Nat → Int32)) (d : Nat)  (σ : aH) : Lq G d M_14 (0, [some (.ref 118)], [], σ) = Lq G d M_14 (3, [some (.ref 118)], [.int (1 : Int32)], σ) :=
  (aUn_eq (tkd G.1 G.2) tmi (aRun (tkd G.1 G.2) tmi tmt d) M_14 [] 1 (0, [some (.ref 118)], [], σ)).trans rfl
set_option maxRecDepth 20000 in
theorem q_14_6071 (G : Nat × (Nat → Int32)) (d : Nat) (s0 : Int32) (σ : aH) : Lq G d M_14 (3, [some (.ref 118)], [.int s0], σ) = if s0 = 0 then Lq G d M_14 (17, [some (.ref 118)], [], σ) else Lq G d M_14 (6, [some (.ref 118)], [], σ) :=
  (aUn_eq (tkd G.1 G.2) tmi (aRun (tkd G.1 G.2) tmi tmt d) M_14 [] 1 (3, [some (.ref 118)], [.int s0], σ)).trans rfl
set_option maxRecDepth 20000 in
theorem q_14_6072 (G : Nat × (Nat → Int32)) (d : Nat)  (σ : aH) : Lq G d M_14 (17, [some (.ref 118)], [], σ) = Lq G d M_14 (18, [some (.ref 118)], [.int (0 : Int32)], σ) :=
  (aUn_eq (tkd G.1 G.2) tmi (aRun (tkd G.1 G.2) tmi tmt d) M_14 [] 1 (17, [some (.ref 118)], [], σ)).trans rfl
set_option maxRecDepth 20000 in
theorem q_14_6073 (G : Nat × (Nat → Int32)) (d : Nat) (s0 : Int32) (σ : aH) : Lq G d M_14 (18, [some (.ref 118)], [.int s0], σ) = aNar .boolean (s0) (some (.inl (some (.int s0)), σ)) :=
  (aUn_eq (tkd G.1 G.2) tmi (aRun (tkd G.1 G.2) tmi tmt d) M_14 [] 1 (18, [some (.ref 118)], [.int s0], σ)).trans rfl
set_option maxRecDepth 20000 in
theorem q_14_6074 (G : Nat × (Nat → Int32)) (d : Nat)  (σ : aH) : Lq G d M_14 (6, [some (.ref 118)], [], σ) = Lq G d M_14 (10, [some (.ref 118)], [.int (0 : Int32)], σ) :=
  (aUn_eq (tkd G.1 G.2) tmi (aRun (tkd G.1 G.2) tmi tmt d) M_14 [] 2 (6, [some (.ref 118)], [], σ)).trans rfl
set_option maxRecDepth 20000 in
theorem q_14_6075 (G : Nat × (Nat → Int32)) (d : Nat) (s0 : Int32) (σ : aH) : Lq G d M_14 (10, [some (.ref 118)], [.int s0], σ) = if s0 = 0 then Lq G d M_14 (13, [some (.ref 118)], [], σ) else Lq G d M_14 (17, [some (.ref 118)], [], σ) :=
  (aUn_eq (tkd G.1 G.2) tmi (aRun (tkd G.1 G.2) tmi tmt d) M_14 [] 1 (10, [some (.ref 118)], [.int s0], σ)).trans rfl
set_option maxRecDepth 20000 in
theorem q_14_6076 (G : Nat × (Nat → Int32)) (d : Nat)  (σ : aH) : Lq G d M_14 (13, [some (.ref 118)], [], σ) = Lq G d M_14 (18, [some (.ref 118)], [.int (1 : Int32)], σ) :=
  (aUn_eq (tkd G.1 G.2) tmi (aRun (tkd G.1 G.2) tmi tmt d) M_14 [] 2 (13, [some (.ref 118)], [], σ)).trans rfl
set_option maxRecDepth 20000 in
theorem q_14_6077 (G : Nat × (Nat → Int32)) (d : Nat)  (σ : aH) : Lq G d M_14 (0, [some (.ref 120)], [], σ) = Lq G d M_14 (3, [some (.ref 120)], [.int (1 : Int32)], σ) :=
  (aUn_eq (tkd G.1 G.2) tmi (aRun (tkd G.1 G.2) tmi tmt d) M_14 [] 1 (0, [some (.ref 120)], [], σ)).trans rfl
set_option maxRecDepth 20000 in
theorem q_14_6078 (G : Nat × (Nat → Int32)) (d : Nat) (s0 : Int32) (σ : aH) : Lq G d M_14 (3, [some (.ref 120)], [.int s0], σ) = if s0 = 0 then Lq G d M_14 (17, [some (.ref 120)], [], σ) else Lq G d M_14 (6, [some (.ref 120)], [], σ) :=
  (aUn_eq (tkd G.1 G.2) tmi (aRun (tkd G.1 G.2) tmi tmt d) M_14 [] 1 (3, [some (.ref 120)], [.int s0], σ)).trans rfl
set_option maxRecDepth 20000 in
theorem q_14_6079 (G : Nat × (Nat → Int32)) (d : Nat)  (σ : aH) : Lq G d M_14 (17, [some (.ref 120)], [], σ) = Lq G d M_14 (18, [some (.ref 120)], [.int (0 : Int32)], σ) :=
  (aUn_eq (tkd G.1 G.2) tmi (aRun (tkd G.1 G.2) tmi tmt d) M_14 [] 1 (17, [some (.ref 120)], [], σ)).trans rfl
set_option maxRecDepth 20000 in
theorem q_14_6080 (G : Nat × (Nat → Int32)) (d : Nat) (s0 : Int32) (σ : aH) : Lq G d M_14 (18, [some (.ref 120)], [.int s0], σ) = aNar .boolean (s0) (some (.inl (some (.int s0)), σ)) :=
  (aUn_eq (tkd G.1 G.2) tmi (aRun (tkd G.1 G.2) tmi tmt d) M_14 [] 1 (18, [some (.ref 120)], [.int s0], σ)).trans rfl
set_option maxRecDepth 20000 in
theorem q_14_6081 (G : Nat × (Nat → Int32)) (d : Nat)  (σ : aH) : Lq G d M_14 (6, [some (.ref 120)], [], σ) = Lq G d M_14 (10, [some (.ref 120)], [.int (0 : Int32)], σ) :=
  (aUn_eq (tkd G.1 G.2) tmi (aRun (tkd G.1 G.2) tmi tmt d) M_14 [] 2 (6, [some (.ref 120)], [], σ)).trans rfl
set_option maxRecDepth 20000 in
theorem q_14_6082 (G : Nat × (Nat → Int32)) (d : Nat) (s0 : Int32) (σ : aH) : Lq G d M_14 (10, [some (.ref 120)], [.int s0], σ) = if s0 = 0 then Lq G d M_14 (13, [some (.ref 120)], [], σ) else Lq G d M_14 (17, [some (.ref 120)], [], σ) :=
  (aUn_eq (tkd G.1 G.2) tmi (aRun (tkd G.1 G.2) tmi tmt d) M_14 [] 1 (10, [some (.ref 120)], [.int s0], σ)).trans rfl
set_option maxRecDepth 20000 in
theorem q_14_6083 (G : Nat × (Nat → Int32)) (d : Nat)  (σ : aH) : Lq G d M_14 (13, [some (.ref 120)], [], σ) = Lq G d M_14 (18, [some (.ref 120)], [.int (1 : Int32)], σ) :=
  (aUn_eq (tkd G.1 G.2) tmi (aRun (tkd G.1 G.2) tmi tmt d) M_14 [] 2 (13, [some (.ref 120)], [], σ)).trans rfl
set_option maxRecDepth 20000 in
theorem q_14_6084 (G : Nat × (Nat → Int32)) (d : Nat)  (σ : aH) : Lq G d M_14 (0, [some (.ref 122)], [], σ) = Lq G d M_14 (3, [some (.ref 122)], [.int (1 : Int32)], σ) :=
  (aUn_eq (tkd G.1 G.2) tmi (aRun (tkd G.1 G.2) tmi tmt d) M_14 [] 1 (0, [some (.ref 122)], [], σ)).trans rfl
set_option maxRecDepth 20000 in
theorem q_14_6085 (G : Nat × (Nat → Int32)) (d : Nat) (s0 : Int32) (σ : aH) : Lq G d M_14 (3, [some (.ref 122)], [.int s0], σ) = if s0 = 0 then Lq G d M_14 (17, [some (.ref 122)], [], σ) else Lq G d M_14 (6, [some (.ref 122)], [], σ) :=
  (aUn_eq (tkd G.1 G.2) tmi (aRun (tkd G.1 G.2) tmi tmt d) M_14 [] 1 (3, [some (.ref 122)], [.int s0], σ)).trans rfl
set_option maxRecDepth 20000 in
theorem q_14_6086 (G : Nat × (Nat → Int32)) (d : Nat)  (σ : aH) : Lq G d M_14 (17, [some (.ref 122)], [], σ) = Lq G d M_14 (18, [some (.ref 122)], [.int (0 : Int32)], σ) :=
  (aUn_eq (tkd G.1 G.2) tmi (aRun (tkd G.1 G.2) tmi tmt d) M_14 [] 1 (17, [some (.ref 122)], [], σ)).trans rfl
set_option maxRecDepth 20000 in
theorem q_14_6087 (G : Nat × (Nat → Int32)) (d : Nat) (s0 : Int32) (σ : aH) : Lq G d M_14 (18, [some (.ref 122)], [.int s0], σ) = aNar .boolean (s0) (some (.inl (some (.int s0)), σ)) :=
  (aUn_eq (tkd G.1 G.2) tmi (aRun (tkd G.1 G.2) tmi tmt d) M_14 [] 1 (18, [some (.ref 122)], [.int s0], σ)).trans rfl
set_option maxRecDepth 20000 in
theorem q_14_6088 (G : Nat × (Nat → Int32)) (d : Nat)  (σ : aH) : Lq G d M_14 (6, [some (.ref 122)], [], σ) = Lq G d M_14 (10, [some (.ref 122)], [.int (0 : Int32)], σ) :=
  (aUn_eq (tkd G.1 G.2) tmi (aRun (tkd G.1 G.2) tmi tmt d) M_14 [] 2 (6, [some (.ref 122)], [], σ)).trans rfl
set_option maxRecDepth 20000 in
theorem q_14_6089 (G : Nat × (Nat → Int32)) (d : Nat) (s0 : Int32) (σ : aH) : Lq G d M_14 (10, [some (.ref 122)], [.int s0], σ) = if s0 = 0 then Lq G d M_14 (13, [some (.ref 122)], [], σ) else Lq G d M_14 (17, [some (.ref 122)], [], σ) :=
  (aUn_eq (tkd G.1 G.2) tmi (aRun (tkd G.1 G.2) tmi tmt d) M_14 [] 1 (10, [some (.ref 122)], [.int s0], σ)).trans rfl
set_option maxRecDepth 20000 in
theorem q_14_6090 (G : Nat × (Nat → Int32)) (d : Nat)  (σ : aH) : Lq G d M_14 (13, [some (.ref 122)], [], σ) = Lq G d M_14 (18, [some (.ref 122)], [.int (1 : Int32)], σ) :=
  (aUn_eq (tkd G.1 G.2) tmi (aRun (tkd G.1 G.2) tmi tmt d) M_14 [] 2 (13, [some (.ref 122)], [], σ)).trans rfl
set_option maxRecDepth 20000 in
theorem q_14_6091 (G : Nat × (Nat → Int32)) (d : Nat)  (σ : aH) : Lq G d M_14 (0, [some (.ref 124)], [], σ) = Lq G d M_14 (3, [some (.ref 124)], [.int (1 : Int32)], σ) :=
  (aUn_eq (tkd G.1 G.2) tmi (aRun (tkd G.1 G.2) tmi tmt d) M_14 [] 1 (0, [some (.ref 124)], [], σ)).trans rfl
set_option maxRecDepth 20000 in
theorem q_14_6092 (G : Nat × (Nat → Int32)) (d : Nat) (s0 : Int32) (σ : aH) : Lq G d M_14 (3, [some (.ref 124)], [.int s0], σ) = if s0 = 0 then Lq G d M_14 (17, [some (.ref 124)], [], σ) else Lq G d M_14 (6, [some (.ref 124)], [], σ) :=
  (aUn_eq (tkd G.1 G.2) tmi (aRun (tkd G.1 G.2) tmi tmt d) M_14 [] 1 (3, [some (.ref 124)], [.int s0], σ)).trans rfl
set_option maxRecDepth 20000 in
theorem q_14_6093 (G : Nat × (Nat → Int32)) (d : Nat)  (σ : aH) : Lq G d M_14 (17, [some (.ref 124)], [], σ) = Lq G d M_14 (18, [some (.ref 124)], [.int (0 : Int32)], σ) :=
  (aUn_eq (tkd G.1 G.2) tmi (aRun (tkd G.1 G.2) tmi tmt d) M_14 [] 1 (17, [some (.ref 124)], [], σ)).trans rfl
set_option maxRecDepth 20000 in
theorem q_14_6094 (G : Nat × (Nat → Int32)) (d : Nat) (s0 : Int32) (σ : aH) : Lq G d M_14 (18, [some (.ref 124)], [.int s0], σ) = aNar .boolean (s0) (some (.inl (some (.int s0)), σ)) :=
  (aUn_eq (tkd G.1 G.2) tmi (aRun (tkd G.1 G.2) tmi tmt d) M_14 [] 1 (18, [some (.ref 124)], [.int s0], σ)).trans rfl
set_option maxRecDepth 20000 in
theorem q_14_6095 (G : Nat × (Nat → Int32)) (d : Nat)  (σ : aH) : Lq G d M_14 (6, [some (.ref 124)], [], σ) = Lq G d M_14 (10, [some (.ref 124)], [.int (0 : Int32)], σ) :=
  (aUn_eq (tkd G.1 G.2) tmi (aRun (tkd G.1 G.2) tmi tmt d) M_14 [] 2 (6, [some (.ref 124)], [], σ)).trans rfl
set_option maxRecDepth 20000 in
theorem q_14_6096 (G : Nat × (Nat → Int32)) (d : Nat) (s0 : Int32) (σ : aH) : Lq G d M_14 (10, [some (.ref 124)], [.int s0], σ) = if s0 = 0 then Lq G d M_14 (13, [some (.ref 124)], [], σ) else Lq G d M_14 (17, [some (.ref 124)], [], σ) :=
  (aUn_eq (tkd G.1 G.2) tmi (aRun (tkd G.1 G.2) tmi tmt d) M_14 [] 1 (10, [some (.ref 124)], [.int s0], σ)).trans rfl
set_option maxRecDepth 20000 in
theorem q_14_6097 (G : Nat × (Nat → Int32)) (d : Nat)  (σ : aH) : Lq G d M_14 (13, [some (.ref 124)], [], σ) = Lq G d M_14 (18, [some (.ref 124)], [.int (1 : Int32)], σ) :=
  (aUn_eq (tkd G.1 G.2) tmi (aRun (tkd G.1 G.2) tmi tmt d) M_14 [] 2 (13, [some (.ref 124)], [], σ)).trans rfl
set_option maxRecDepth 20000 in
theorem q_14_6098 (G : Nat × (Nat → Int32)) (d : Nat)  (σ : aH) : Lq G d M_14 (0, [some (.ref 126)], [], σ) = Lq G d M_14 (3, [some (.ref 126)], [.int (1 : Int32)], σ) :=
  (aUn_eq (tkd G.1 G.2) tmi (aRun (tkd G.1 G.2) tmi tmt d) M_14 [] 1 (0, [some (.ref 126)], [], σ)).trans rfl
set_option maxRecDepth 20000 in
theorem q_14_6099 (G : Nat × (Nat → Int32)) (d : Nat) (s0 : Int32) (σ : aH) : Lq G d M_14 (3, [some (.ref 126)], [.int s0], σ) = if s0 = 0 then Lq G d M_14 (17, [some (.ref 126)], [], σ) else Lq G d M_14 (6, [some (.ref 126)], [], σ) :=
  (aUn_eq (tkd G.1 G.2) tmi (aRun (tkd G.1 G.2) tmi tmt d) M_14 [] 1 (3, [some (.ref 126)], [.int s0], σ)).trans rfl
set_option maxRecDepth 20000 in
theorem q_14_6100 (G : Nat × (Nat → Int32)) (d : Nat)  (σ : aH) : Lq G d M_14 (17, [some (.ref 126)], [], σ) = Lq G d M_14 (18, [some (.ref 126)], [.int (0 : Int32)], σ) :=
  (aUn_eq (tkd G.1 G.2) tmi (aRun (tkd G.1 G.2) tmi tmt d) M_14 [] 1 (17, [some (.ref 126)], [], σ)).trans rfl
set_option maxRecDepth 20000 in
theorem q_14_6101 (G : Nat × (Nat → Int32)) (d : Nat) (s0 : Int32) (σ : aH) : Lq G d M_14 (18, [some (.ref 126)], [.int s0], σ) = aNar .boolean (s0) (some (.inl (some (.int s0)), σ)) :=
  (aUn_eq (tkd G.1 G.2) tmi (aRun (tkd G.1 G.2) tmi tmt d) M_14 [] 1 (18, [some (.ref 126)], [.int s0], σ)).trans rfl
set_option maxRecDepth 20000 in
theorem q_14_6102 (G : Nat × (Nat → Int32)) (d : Nat)  (σ : aH) : Lq G d M_14 (6, [some (.ref 126)], [], σ) = Lq G d M_14 (10, [some (.ref 126)], [.int (0 : Int32)], σ) :=
  (aUn_eq (tkd G.1 G.2) tmi (aRun (tkd G.1 G.2) tmi tmt d) M_14 [] 2 (6, [some (.ref 126)], [], σ)).trans rfl
set_option maxRecDepth 20000 in
theorem q_14_6103 (G : Nat × (Nat → Int32)) (d : Nat) (s0 : Int32) (σ : aH) : Lq G d M_14 (10, [some (.ref 126)], [.int s0], σ) = if s0 = 0 then Lq G d M_14 (13, [some (.ref 126)], [], σ) else Lq G d M_14 (17, [some (.ref 126)], [], σ) :=
  (aUn_eq (tkd G.1 G.2) tmi (aRun (tkd G.1 G.2) tmi tmt d) M_14 [] 1 (10, [some (.ref 126)], [.int s0], σ)).trans rfl
set_option maxRecDepth 20000 in
theorem q_14_6104 (G : Nat × (Nat → Int32)) (d : Nat)  (σ : aH) : Lq G d M_14 (13, [some (.ref 126)], [], σ) = Lq G d M_14 (18, [some (.ref 126)], [.int (1 : Int32)], σ) :=
  (aUn_eq (tkd G.1 G.2) tmi (aRun (tkd G.1 G.2) tmi tmt d) M_14 [] 2 (13, [some (.ref 126)], [], σ)).trans rfl
set_option maxRecDepth 20000 in
theorem q_14_6105 (G : Nat × (Nat → Int32)) (d : Nat)  (σ : aH) : Lq G d M_14 (0, [some (.ref 128)], [], σ) = Lq G d M_14 (3, [some (.ref 128)], [.int (1 : Int32)], σ) :=
  (aUn_eq (tkd G.1 G.2) tmi (aRun (tkd G.1 G.2) tmi tmt d) M_14 [] 1 (0, [some (.ref 128)], [], σ)).trans rfl
set_option maxRecDepth 20000 in
theorem q_14_6106 (G : Nat × (Nat → Int32)) (d : Nat) (s0 : Int32) (σ : aH) : Lq G d M_14 (3, [some (.ref 128)], [.int s0], σ) = if s0 = 0 then Lq G d M_14 (17, [some (.ref 128)], [], σ) else Lq G d M_14 (6, [some (.ref 128)], [], σ) :=
  (aUn_eq (tkd G.1 G.2) tmi (aRun (tkd G.1 G.2) tmi tmt d) M_14 [] 1 (3, [some (.ref 128)], [.int s0], σ)).trans rfl
set_option maxRecDepth 20000 in
theorem q_14_6107 (G : Nat × (Nat → Int32)) (d : Nat)  (σ : aH) : Lq G d M_14 (17, [some (.ref 128)], [], σ) = Lq G d M_14 (18, [some (.ref 128)], [.int (0 : Int32)], σ) :=
  (aUn_eq (tkd G.1 G.2) tmi (aRun (tkd G.1 G.2) tmi tmt d) M_14 [] 1 (17, [some (.ref 128)], [], σ)).trans rfl
set_option maxRecDepth 20000 in
theorem q_14_6108 (G : Nat × (Nat → Int32)) (d : Nat) (s0 : Int32) (σ : aH) : Lq G d M_14 (18, [some (.ref 128)], [.int s0], σ) = aNar .boolean (s0) (some (.inl (some (.int s0)), σ)) :=
  (aUn_eq (tkd G.1 G.2) tmi (aRun (tkd G.1 G.2) tmi tmt d) M_14 [] 1 (18, [some (.ref 128)], [.int s0], σ)).trans rfl
set_option maxRecDepth 20000 in
theorem q_14_6109 (G : Nat × (Nat → Int32)) (d : Nat)  (σ : aH) : Lq G d M_14 (6, [some (.ref 128)], [], σ) = Lq G d M_14 (10, [some (.ref 128)], [.int (0 : Int32)], σ) :=
  (aUn_eq (tkd G.1 G.2) tmi (aRun (tkd G.1 G.2) tmi tmt d) M_14 [] 2 (6, [some (.ref 128)], [], σ)).trans rfl
set_option maxRecDepth 20000 in
theorem q_14_6110 (G : Nat × (Nat → Int32)) (d : Nat) (s0 : Int32) (σ : aH) : Lq G d M_14 (10, [some (.ref 128)], [.int s0], σ) = if s0 = 0 then Lq G d M_14 (13, [some (.ref 128)], [], σ) else Lq G d M_14 (17, [some (.ref 128)], [], σ) :=
  (aUn_eq (tkd G.1 G.2) tmi (aRun (tkd G.1 G.2) tmi tmt d) M_14 [] 1 (10, [some (.ref 128)], [.int s0], σ)).trans rfl
set_option maxRecDepth 20000 in
theorem q_14_6111 (G : Nat × (Nat → Int32)) (d : Nat)  (σ : aH) : Lq G d M_14 (13, [some (.ref 128)], [], σ) = Lq G d M_14 (18, [some (.ref 128)], [.int (1 : Int32)], σ) :=
  (aUn_eq (tkd G.1 G.2) tmi (aRun (tkd G.1 G.2) tmi tmt d) M_14 [] 2 (13, [some (.ref 128)], [], σ)).trans rfl
set_option maxRecDepth 20000 in
theorem q_27_6112 (G : Nat × (Nat → Int32)) (d : Nat) (rx0 : Nat) (x1 : Int32) (σ : aH) : Lq G d M_27 (0, [some (.ref rx0), some (.int x1)], [], σ) = Lq G d M_27 (2, [some (.ref rx0), some (.int x1)], [.ref rx0, .int x1], σ) :=
  (aUn_eq (tkd G.1 G.2) tmi (aRun (tkd G.1 G.2) tmi tmt d) M_27 [] 2 (0, [some (.ref rx0), some (.int x1)], [], σ)).trans rfl
set_option maxRecDepth 20000 in
theorem q_27_6113 (G : Nat × (Nat → Int32)) (d : Nat) (rx0 : Nat) (x1 : Int32) (rs0 : Nat) (s1 : Int32) (σ : aH) : Lq G d M_27 (2, [some (.ref rx0), some (.int x1)], [.ref rs0, .int s1], σ) = aLen (tkd G.1 G.2) rs0 fun n1 => Lq G d M_27 (3, [some (.ref rx0), some (.int x1)], [.int (Int32.ofNat n1), .int s1], σ) :=
  (aUn_eq (tkd G.1 G.2) tmi (aRun (tkd G.1 G.2) tmi tmt d) M_27 [] 1 (2, [some (.ref rx0), some (.int x1)], [.ref rs0, .int s1], σ)).trans rfl
set_option maxRecDepth 20000 in
theorem q_27_6114 (G : Nat × (Nat → Int32)) (d : Nat) (rx0 : Nat) (x1 : Int32) (s0 : Int32) (s1 : Int32) (σ : aH) : Lq G d M_27 (3, [some (.ref rx0), some (.int x1)], [.int s0, .int s1], σ) = aCV (Rn G d 28 [.int s1, .int s0] σ) fun σ1 => Lq G d M_27 (6, [some (.ref rx0), some (.int x1)], [], σ1) :=
  (aUn_eq (tkd G.1 G.2) tmi (aRun (tkd G.1 G.2) tmi tmt d) M_27 [] 1 (3, [some (.ref rx0), some (.int x1)], [.int s0, .int s1], σ)).trans rfl
set_option maxRecDepth 20000 in
theorem q_27_6115 (G : Nat × (Nat → Int32)) (d : Nat) (rx0 : Nat) (x1 : Int32) (σ : aH) : Lq G d M_27 (6, [some (.ref rx0), some (.int x1)], [], σ) = Lq G d M_27 (8, [some (.ref rx0), some (.int x1)], [.int x1, .ref rx0], σ) :=
  (aUn_eq (tkd G.1 G.2) tmi (aRun (tkd G.1 G.2) tmi tmt d) M_27 [] 2 (6, [some (.ref rx0), some (.int x1)], [], σ)).trans rfl
set_option maxRecDepth 20000 in
theorem q_27_6116 (G : Nat × (Nat → Int32)) (d : Nat) (rx0 : Nat) (x1 : Int32) (s0 : Int32) (rs1 : Nat) (σ : aH) : Lq G d M_27 (8, [some (.ref rx0), some (.int x1)], [.int s0, .ref rs1], σ) = aArB (tkd G.1 G.2) rs1 σ fun n2 f3 => aIx (s0) n2 fun j1 => Lq G d M_27 (9, [some (.ref rx0), some (.int x1)], [.int (f3 j1)], σ) :=
  (aUn_eq (tkd G.1 G.2) tmi (aRun (tkd G.1 G.2) tmi tmt d) M_27 [] 1 (8, [some (.ref rx0), some (.int x1)], [.int s0, .ref rs1], σ)).trans rfl
set_option maxRecDepth 20000 in
theorem q_27_6117 (G : Nat × (Nat → Int32)) (d : Nat) (rx0 : Nat) (x1 : Int32) (s0 : Int32) (σ : aH) : Lq G d M_27 (9, [some (.ref rx0), some (.int x1)], [.int s0], σ) = Lq G d M_27 (14, [some (.ref rx0), some (.int x1)], [.int (((s0 &&& (255 : Int32))).toUInt32 % 65536).toInt32], σ) :=
  (aUn_eq (tkd G.1 G.2) tmi (aRun (tkd G.1 G.2) tmi tmt d) M_27 [] 3 (9, [some (.ref rx0), some (.int x1)], [.int s0], σ)).trans rfl
set_option maxRecDepth 20000 in
theorem q_27_6118 (G : Nat × (Nat → Int32)) (d : Nat) (rx0 : Nat) (x1 : Int32) (s0 : Int32) (σ : aH) : Lq G d M_27 (14, [some (.ref rx0), some (.int x1)], [.int s0], σ) = aNar .char (s0) (some (.inl (some (.int s0)), σ)) :=
  (aUn_eq (tkd G.1 G.2) tmi (aRun (tkd G.1 G.2) tmi tmt d) M_27 [] 1 (14, [some (.ref rx0), some (.int x1)], [.int s0], σ)).trans rfl
set_option maxRecDepth 20000 in
theorem q_36_6119 (G : Nat × (Nat → Int32)) (d : Nat) (x1 : Int32) (x2 : Int32) (σ : aH) : Lq G d M_36 (0, [some (.ref 1), some (.int x1), some (.int x2), none], [], σ) = Lq G d M_36 (5, [some (.ref 1), some (.int x1), some (.int x2), none], [.int (2 : Int32), .int (σ.1 1 4)], σ) :=
  (aUn_eq (tkd G.1 G.2) tmi (aRun (tkd G.1 G.2) tmi tmt d) M_36 [] 3 (0, [some (.ref 1), some (.int x1), some (.int x2), none], [], σ)).trans rfl
set_option maxRecDepth 20000 in
theorem q_36_6120 (G : Nat × (Nat → Int32)) (d : Nat) (x1 : Int32) (x2 : Int32) (s0 : Int32) (s1 : Int32) (σ : aH) : Lq G d M_36 (5, [some (.ref 1), some (.int x1), some (.int x2), none], [.int s0, .int s1], σ) = if s1 = s0 then Lq G d M_36 (16, [some (.ref 1), some (.int x1), some (.int x2), none], [], σ) else Lq G d M_36 (8, [some (.ref 1), some (.int x1), some (.int x2), none], [], σ) :=
  (aUn_eq (tkd G.1 G.2) tmi (aRun (tkd G.1 G.2) tmi tmt d) M_36 [] 1 (5, [some (.ref 1), some (.int x1), some (.int x2), none], [.int s0, .int s1], σ)).trans rfl
set_option maxRecDepth 20000 in
theorem q_36_6121 (G : Nat × (Nat → Int32)) (d : Nat) (x1 : Int32) (x2 : Int32) (σ : aH) : Lq G d M_36 (16, [some (.ref 1), some (.int x1), some (.int x2), none], [], σ) = Lq G d M_36 (21, [some (.ref 1), some (.int x1), some (.int x2), none], [.int x1, .int (σ.1 1 5)], σ) :=
  (aUn_eq (tkd G.1 G.2) tmi (aRun (tkd G.1 G.2) tmi tmt d) M_36 [] 3 (16, [some (.ref 1), some (.int x1), some (.int x2), none], [], σ)).trans rfl
set_option maxRecDepth 20000 in
theorem q_36_6122 (G : Nat × (Nat → Int32)) (d : Nat) (x1 : Int32) (x2 : Int32) (s0 : Int32) (s1 : Int32) (σ : aH) : Lq G d M_36 (21, [some (.ref 1), some (.int x1), some (.int x2), none], [.int s0, .int s1], σ) = if s1 < s0 then Lq G d M_36 (32, [some (.ref 1), some (.int x1), some (.int x2), none], [], σ) else Lq G d M_36 (24, [some (.ref 1), some (.int x1), some (.int x2), none], [], σ) :=
  (aUn_eq (tkd G.1 G.2) tmi (aRun (tkd G.1 G.2) tmi tmt d) M_36 [] 1 (21, [some (.ref 1), some (.int x1), some (.int x2), none], [.int s0, .int s1], σ)).trans rfl
set_option maxRecDepth 20000 in
theorem q_36_6123 (G : Nat × (Nat → Int32)) (d : Nat) (x1 : Int32) (x2 : Int32) (σ : aH) : Lq G d M_36 (32, [some (.ref 1), some (.int x1), some (.int x2), none], [], σ) = Lq G d M_36 (34, [some (.ref 1), some (.int x1), some (.int x2), none], [.int (2 : Int32), .ref 1], σ) :=
  (aUn_eq (tkd G.1 G.2) tmi (aRun (tkd G.1 G.2) tmi tmt d) M_36 [] 2 (32, [some (.ref 1), some (.int x1), some (.int x2), none], [], σ)).trans rfl
set_option maxRecDepth 20000 in
theorem q_36_6124 (G : Nat × (Nat → Int32)) (d : Nat) (x1 : Int32) (x2 : Int32) (s0 : Int32) (σ : aH) : Lq G d M_36 (34, [some (.ref 1), some (.int x1), some (.int x2), none], [.int s0, .ref 1], σ) = aCV (Rn G d 30 [.ref 1, .int s0] σ) fun σ1 => Lq G d M_36 (37, [some (.ref 1), some (.int x1), some (.int x2), none], [], σ1) :=
  (aUn_eq (tkd G.1 G.2) tmi (aRun (tkd G.1 G.2) tmi tmt d) M_36 [] 1 (34, [some (.ref 1), some (.int x1), some (.int x2), none], [.int s0, .ref 1], σ)).trans rfl
set_option maxRecDepth 20000 in
theorem q_36_6125 (G : Nat × (Nat → Int32)) (d : Nat) (x1 : Int32) (x2 : Int32) (σ : aH) : Lq G d M_36 (37, [some (.ref 1), some (.int x1), some (.int x2), none], [], σ) = Lq G d M_36 (43, [some (.ref 1), some (.int x1), some (.int x2), some (.int (σ.1 1 5))], [.ref 1], σ) :=
  (aUn_eq (tkd G.1 G.2) tmi (aRun (tkd G.1 G.2) tmi tmt d) M_36 [] 4 (37, [some (.ref 1), some (.int x1), some (.int x2), none], [], σ)).trans rfl
set_option maxRecDepth 20000 in
theorem q_36_6126 (G : Nat × (Nat → Int32)) (d : Nat) (x1 : Int32) (x2 : Int32) (x3 : Int32) (σ : aH) : Lq G d M_36 (43, [some (.ref 1), some (.int x1), some (.int x2), some (.int x3)], [.ref 1], σ) = aCV (Rn G d 8 [.ref 1] σ) fun σ1 => Lq G d M_36 (46, [some (.ref 1), some (.int x1), some (.int x2), some (.int x3)], [], σ1) :=
  (aUn_eq (tkd G.1 G.2) tmi (aRun (tkd G.1 G.2) tmi tmt d) M_36 [] 1 (43, [some (.ref 1), some (.int x1), some (.int x2), some (.int x3)], [.ref 1], σ)).trans rfl
set_option maxRecDepth 20000 in
theorem q_36_6127 (G : Nat × (Nat → Int32)) (d : Nat) (x1 : Int32) (x2 : Int32) (x3 : Int32) (σ : aH) : Lq G d M_36 (46, [some (.ref 1), some (.int x1), some (.int x2), some (.int x3)], [], σ) = Lq G d M_36 (47, [some (.ref 1), some (.int x1), some (.int x2), some (.int x3)], [.int x3], σ) :=
  (aUn_eq (tkd G.1 G.2) tmi (aRun (tkd G.1 G.2) tmi tmt d) M_36 [] 1 (46, [some (.ref 1), some (.int x1), some (.int x2), some (.int x3)], [], σ)).trans rfl
set_option maxRecDepth 20000 in
theorem q_36_6128 (G : Nat × (Nat → Int32)) (d : Nat) (x1 : Int32) (x2 : Int32) (x3 : Int32) (s0 : Int32) (σ : aH) : Lq G d M_36 (47, [some (.ref 1), some (.int x1), some (.int x2), some (.int x3)], [.int s0], σ) = some (.inl (some (.int s0)), σ) :=
  (aUn_eq (tkd G.1 G.2) tmi (aRun (tkd G.1 G.2) tmi tmt d) M_36 [] 1 (47, [some (.ref 1), some (.int x1), some (.int x2), some (.int x3)], [.int s0], σ)).trans rfl
set_option maxRecDepth 20000 in
theorem q_36_6129 (G : Nat × (Nat → Int32)) (d : Nat) (x1 : Int32) (x2 : Int32) (σ : aH) : Lq G d M_36 (24, [some (.ref 1), some (.int x1), some (.int x2), none], [], σ) = Lq G d M_36 (29, [some (.ref 1), some (.int x1), some (.int x2), none], [.int x2, .int (σ.1 1 5)], σ) :=
  (aUn_eq (tkd G.1 G.2) tmi (aRun (tkd G.1 G.2) tmi tmt d) M_36 [] 3 (24, [some (.ref 1), some (.int x1), some (.int x2), none], [], σ)).trans rfl
set_option maxRecDepth 20000 in
theorem q_36_6130 (G : Nat × (Nat → Int32)) (d : Nat) (x1 : Int32) (x2 : Int32) (s0 : Int32) (s1 : Int32) (σ : aH) : Lq G d M_36 (29, [some (.ref 1), some (.int x1), some (.int x2), none], [.int s0, .int s1], σ) = if s1 ≤ s0 then Lq G d M_36 (37, [some (.ref 1), some (.int x1), some (.int x2), none], [], σ) else Lq G d M_36 (32, [some (.ref 1), some (.int x1), some (.int x2), none], [], σ) :=
  (aUn_eq (tkd G.1 G.2) tmi (aRun (tkd G.1 G.2) tmi tmt d) M_36 [] 1 (29, [some (.ref 1), some (.int x1), some (.int x2), none], [.int s0, .int s1], σ)).trans rfl
set_option maxRecDepth 20000 in
theorem q_36_6131 (G : Nat × (Nat → Int32)) (d : Nat) (x1 : Int32) (x2 : Int32) (σ : aH) : Lq G d M_36 (8, [some (.ref 1), some (.int x1), some (.int x2), none], [], σ) = Lq G d M_36 (10, [some (.ref 1), some (.int x1), some (.int x2), none], [.int (1 : Int32), .ref 1], σ) :=
  (aUn_eq (tkd G.1 G.2) tmi (aRun (tkd G.1 G.2) tmi tmt d) M_36 [] 2 (8, [some (.ref 1), some (.int x1), some (.int x2), none], [], σ)).trans rfl
set_option maxRecDepth 20000 in
theorem q_36_6132 (G : Nat × (Nat → Int32)) (d : Nat) (x1 : Int32) (x2 : Int32) (s0 : Int32) (σ : aH) : Lq G d M_36 (10, [some (.ref 1), some (.int x1), some (.int x2), none], [.int s0, .ref 1], σ) = aCV (Rn G d 30 [.ref 1, .int s0] σ) fun σ1 => Lq G d M_36 (13, [some (.ref 1), some (.int x1), some (.int x2), none], [], σ1) :=
  (aUn_eq (tkd G.1 G.2) tmi (aRun (tkd G.1 G.2) tmi tmt d) M_36 [] 1 (10, [some (.ref 1), some (.int x1), some (.int x2), none], [.int s0, .ref 1], σ)).trans rfl
set_option maxRecDepth 20000 in
theorem q_36_6133 (G : Nat × (Nat → Int32)) (d : Nat) (x1 : Int32) (x2 : Int32) (σ : aH) : Lq G d M_36 (13, [some (.ref 1), some (.int x1), some (.int x2), none], [], σ) = Lq G d M_36 (43, [some (.ref 1), some (.int x1), some (.int x2), some (.int (σ.1 1 5))], [.ref 1], σ) :=
  (aUn_eq (tkd G.1 G.2) tmi (aRun (tkd G.1 G.2) tmi tmt d) M_36 [] 5 (13, [some (.ref 1), some (.int x1), some (.int x2), none], [], σ)).trans rfl
set_option maxRecDepth 20000 in
theorem q_53_6134 (G : Nat × (Nat → Int32)) (d : Nat)  (σ : aH) : Lq G d M_53 (0, [some (.ref 11)], [], σ) = Lq G d M_53 (4, [some (.ref 11)], [.int (σ.1 11 1)], σ) :=
  (aUn_eq (tkd G.1 G.2) tmi (aRun (tkd G.1 G.2) tmi tmt d) M_53 [] 2 (0, [some (.ref 11)], [], σ)).trans rfl
set_option maxRecDepth 20000 in
theorem q_53_6135 (G : Nat × (Nat → Int32)) (d : Nat) (s0 : Int32) (σ : aH) : Lq G d M_53 (4, [some (.ref 11)], [.int s0], σ) = if s0 ≤ 0 then Lq G d M_53 (29, [some (.ref 11)], [], σ) else Lq G d M_53 (7, [some (.ref 11)], [], σ) :=
  (aUn_eq (tkd G.1 G.2) tmi (aRun (tkd G.1 G.2) tmi tmt d) M_53 [] 1 (4, [some (.ref 11)], [.int s0], σ)).trans rfl
set_option maxRecDepth 20000 in
theorem q_53_6136 (G : Nat × (Nat → Int32)) (d : Nat)  (σ : aH) : Lq G d M_53 (29, [some (.ref 11)], [], σ) = Lq G d M_53 (30, [some (.ref 11)], [.int (0 : Int32)], σ) :=
  (aUn_eq (tkd G.1 G.2) tmi (aRun (tkd G.1 G.2) tmi tmt d) M_53 [] 1 (29, [some (.ref 11)], [], σ)).trans rfl
set_option maxRecDepth 20000 in
theorem q_53_6137 (G : Nat × (Nat → Int32)) (d : Nat) (s0 : Int32) (σ : aH) : Lq G d M_53 (30, [some (.ref 11)], [.int s0], σ) = some (.inl (some (.int s0)), σ) :=
  (aUn_eq (tkd G.1 G.2) tmi (aRun (tkd G.1 G.2) tmi tmt d) M_53 [] 1 (30, [some (.ref 11)], [.int s0], σ)).trans rfl
set_option maxRecDepth 20000 in
theorem q_53_6138 (G : Nat × (Nat → Int32)) (d : Nat)  (σ : aH) : Lq G d M_53 (7, [some (.ref 11)], [], σ) = Lq G d M_53 (20, [some (.ref 11)], [.int ((σ.1 11 1) - (1 : Int32)), .ref 12, .ref 67], σ) :=
  (aUn_eq (tkd G.1 G.2) tmi (aRun (tkd G.1 G.2) tmi tmt d) M_53 [] 7 (7, [some (.ref 11)], [], σ)).trans rfl
set_option maxRecDepth 20000 in
theorem q_53_6139 (G : Nat × (Nat → Int32)) (d : Nat) (s0 : Int32) (σ : aH) : Lq G d M_53 (20, [some (.ref 11)], [.int s0, .ref 12, .ref 67], σ) = aCI (Rn G d 32 [.ref 12, .int s0] σ) fun v2 σ1 => Lq G d M_53 (23, [some (.ref 11)], [.int v2, .ref 67], σ1) :=
  (aUn_eq (tkd G.1 G.2) tmi (aRun (tkd G.1 G.2) tmi tmt d) M_53 [] 1 (20, [some (.ref 11)], [.int s0, .ref 12, .ref 67], σ)).trans rfl
set_option maxRecDepth 20000 in
theorem q_53_6140 (G : Nat × (Nat → Int32)) (d : Nat) (s0 : Int32) (σ : aH) : Lq G d M_53 (23, [some (.ref 11)], [.int s0, .ref 67], σ) = aCI (Rn G d 32 [.ref 67, .int s0] σ) fun v2 σ1 => Lq G d M_53 (26, [some (.ref 11)], [.int v2], σ1) :=
  (aUn_eq (tkd G.1 G.2) tmi (aRun (tkd G.1 G.2) tmi tmt d) M_53 [] 1 (23, [some (.ref 11)], [.int s0, .ref 67], σ)).trans rfl
set_option maxRecDepth 20000 in
theorem q_53_6141 (G : Nat × (Nat → Int32)) (d : Nat) (s0 : Int32) (σ : aH) : Lq G d M_53 (26, [some (.ref 11)], [.int s0], σ) = Lq G d M_53 (30, [some (.ref 11)], [.int s0], σ) :=
  (aUn_eq (tkd G.1 G.2) tmi (aRun (tkd G.1 G.2) tmi tmt d) M_53 [] 1 (26, [some (.ref 11)], [.int s0], σ)).trans rfl
set_option maxRecDepth 20000 in
theorem q_50_6142 (G : Nat × (Nat → Int32)) (d : Nat) (x1 : Int32) (σ : aH) : Lq G d M_50 (0, [some (.ref 7), some (.int x1)], [], σ) = Lq G d M_50 (9, [some (.ref 7), some (.int x1)], [.int x1, .int (σ.1 7 3), .ref 10], σ) :=
  (aUn_eq (tkd G.1 G.2) tmi (aRun (tkd G.1 G.2) tmi tmt d) M_50 [] 5 (0, [some (.ref 7), some (.int x1)], [], σ)).trans rfl
set_option maxRecDepth 20000 in
theorem q_50_6143 (G : Nat × (Nat → Int32)) (d : Nat) (x1 : Int32) (s0 : Int32) (s1 : Int32) (σ : aH) : Lq G d M_50 (9, [some (.ref 7), some (.int x1)], [.int s0, .int s1, .ref 10], σ) = aCV (Rn G d 24 [.ref 10, .int s1, .int s0] σ) fun σ1 => Lq G d M_50 (12, [some (.ref 7), some (.int x1)], [], σ1) :=
  (aUn_eq (tkd G.1 G.2) tmi (aRun (tkd G.1 G.2) tmi tmt d) M_50 [] 1 (9, [some (.ref 7), some (.int x1)], [.int s0, .int s1, .ref 10], σ)).trans rfl
set_option maxRecDepth 20000 in
theorem q_50_6144 (G : Nat × (Nat → Int32)) (d : Nat) (x1 : Int32) (σ : aH) : Lq G d M_50 (12, [some (.ref 7), some (.int x1)], [], σ) = Lq G d M_50 (22, [some (.ref 7), some (.int x1)], [], (aSI σ 7 3 ((σ.1 7 3) + (1 : Int32)))) :=
  (aUn_eq (tkd G.1 G.2) tmi (aRun (tkd G.1 G.2) tmi tmt d) M_50 [] 6 (12, [some (.ref 7), some (.int x1)], [], σ)).trans rfl
set_option maxRecDepth 20000 in
theorem q_50_6145 (G : Nat × (Nat → Int32)) (d : Nat) (x1 : Int32) (σ : aH) : Lq G d M_50 (22, [some (.ref 7), some (.int x1)], [], σ) = some (.inl none, σ) :=
  (aUn_eq (tkd G.1 G.2) tmi (aRun (tkd G.1 G.2) tmi tmt d) M_50 [] 1 (22, [some (.ref 7), some (.int x1)], [], σ)).trans rfl
set_option maxRecDepth 20000 in
theorem q_54_6146 (G : Nat × (Nat → Int32)) (d : Nat) (rx1 : Nat) (σ : aH) : Lq G d M_54 (0, [some (.ref 1), some (.ref rx1)], [], σ) = Lq G d M_54 (5, [some (.ref 1), some (.ref rx1)], [.int (3 : Int32), .int (σ.1 1 4)], σ) :=
  (aUn_eq (tkd G.1 G.2) tmi (aRun (tkd G.1 G.2) tmi tmt d) M_54 [] 3 (0, [some (.ref 1), some (.ref rx1)], [], σ)).trans rfl
set_option maxRecDepth 20000 in
theorem q_54_6147 (G : Nat × (Nat → Int32)) (d : Nat) (rx1 : Nat) (s0 : Int32) (s1 : Int32) (σ : aH) : Lq G d M_54 (5, [some (.ref 1), some (.ref rx1)], [.int s0, .int s1], σ) = if s1 = s0 then Lq G d M_54 (8, [some (.ref 1), some (.ref rx1)], [], σ) else Lq G d M_54 (24, [some (.ref 1), some (.ref rx1)], [], σ) :=
  (aUn_eq (tkd G.1 G.2) tmi (aRun (tkd G.1 G.2) tmi tmt d) M_54 [] 1 (5, [some (.ref 1), some (.ref rx1)], [.int s0, .int s1], σ)).trans rfl
set_option maxRecDepth 20000 in
theorem q_54_6148 (G : Nat × (Nat → Int32)) (d : Nat) (rx1 : Nat) (σ : aH) : Lq G d M_54 (8, [some (.ref 1), some (.ref rx1)], [], σ) = Lq G d M_54 (14, [some (.ref 1), some (.ref rx1)], [.int (σ.1 1 3), .ref 1, .ref rx1], σ) :=
  (aUn_eq (tkd G.1 G.2) tmi (aRun (tkd G.1 G.2) tmi tmt d) M_54 [] 4 (8, [some (.ref 1), some (.ref rx1)], [], σ)).trans rfl
set_option maxRecDepth 20000 in
theorem q_54_6149 (G : Nat × (Nat → Int32)) (d : Nat) (rx1 : Nat) (s0 : Int32) (rs2 : Nat) (σ : aH) : Lq G d M_54 (14, [some (.ref 1), some (.ref rx1)], [.int s0, .ref 1, .ref rs2], σ) = aCI (Rn G d 9 [.ref 1, .int s0] σ) fun v2 σ1 => Lq G d M_54 (17, [some (.ref 1), some (.ref rx1)], [.int v2, .ref rs2], σ1) :=
  (aUn_eq (tkd G.1 G.2) tmi (aRun (tkd G.1 G.2) tmi tmt d) M_54 [] 1 (14, [some (.ref 1), some (.ref rx1)], [.int s0, .ref 1, .ref rs2], σ)).trans rfl
set_option maxRecDepth 20000 in
theorem q_54_6150 (G : Nat × (Nat → Int32)) (d : Nat) (rx1 : Nat) (s0 : Int32) (rs1 : Nat) (σ : aH) : Lq G d M_54 (17, [some (.ref 1), some (.ref rx1)], [.int s0, .ref rs1], σ) = Lq G d M_54 (18, [some (.ref 1), some (.ref rx1)], [.int ((s0).toUInt32 % 65536).toInt32, .ref rs1], σ) :=
  (aUn_eq (tkd G.1 G.2) tmi (aRun (tkd G.1 G.2) tmi tmt d) M_54 [] 1 (17, [some (.ref 1), some (.ref rx1)], [.int s0, .ref rs1], σ)).trans rfl
set_option maxRecDepth 20000 in
theorem q_54_6151 (G : Nat × (Nat → Int32)) (d : Nat) (rx1 : Nat) (s0 : Int32) (rs1 : Nat) (σ : aH) : Lq G d M_54 (18, [some (.ref 1), some (.ref rx1)], [.int s0, .ref rs1], σ) = aGd (tkd G.1 G.2) (some 20) [.ref rs1, .int s0] (aCI (Rn G d 12 [.ref rs1, .int s0] σ) fun v2 σ1 => Lq G d M_54 (21, [some (.ref 1), some (.ref rx1)], [.int v2], σ1)) :=
  (aUn_eq (tkd G.1 G.2) tmi (aRun (tkd G.1 G.2) tmi tmt d) M_54 [] 1 (18, [some (.ref 1), some (.ref rx1)], [.int s0, .ref rs1], σ)).trans rfl
set_option maxRecDepth 20000 in
theorem q_54_6152 (G : Nat × (Nat → Int32)) (d : Nat) (rx1 : Nat) (s0 : Int32) (σ : aH) : Lq G d M_54 (21, [some (.ref 1), some (.ref rx1)], [.int s0], σ) = Lq G d M_54 (25, [some (.ref 1), some (.ref rx1)], [.int s0], σ) :=
  (aUn_eq (tkd G.1 G.2) tmi (aRun (tkd G.1 G.2) tmi tmt d) M_54 [] 1 (21, [some (.ref 1), some (.ref rx1)], [.int s0], σ)).trans rfl
set_option maxRecDepth 20000 in
theorem q_54_6153 (G : Nat × (Nat → Int32)) (d : Nat) (rx1 : Nat) (s0 : Int32) (σ : aH) : Lq G d M_54 (25, [some (.ref 1), some (.ref rx1)], [.int s0], σ) = some (.inl (some (.int s0)), σ) :=
  (aUn_eq (tkd G.1 G.2) tmi (aRun (tkd G.1 G.2) tmi tmt d) M_54 [] 1 (25, [some (.ref 1), some (.ref rx1)], [.int s0], σ)).trans rfl
set_option maxRecDepth 20000 in
theorem q_54_6154 (G : Nat × (Nat → Int32)) (d : Nat) (rx1 : Nat) (σ : aH) : Lq G d M_54 (24, [some (.ref 1), some (.ref rx1)], [], σ) = Lq G d M_54 (25, [some (.ref 1), some (.ref rx1)], [.int (-1 : Int32)], σ) :=
  (aUn_eq (tkd G.1 G.2) tmi (aRun (tkd G.1 G.2) tmi tmt d) M_54 [] 1 (24, [some (.ref 1), some (.ref rx1)], [], σ)).trans rfl
set_option maxRecDepth 20000 in
theorem q_47_6155 (G : Nat × (Nat → Int32)) (d : Nat) (x1 : Int32) (σ : aH) : Lq G d M_47 (0, [some (.ref 11), some (.int x1)], [], σ) = Lq G d M_47 (9, [some (.ref 11), some (.int x1)], [.int x1, .int (σ.1 11 1), .ref 12], σ) :=
  (aUn_eq (tkd G.1 G.2) tmi (aRun (tkd G.1 G.2) tmi tmt d) M_47 [] 5 (0, [some (.ref 11), some (.int x1)], [], σ)).trans rfl
set_option maxRecDepth 20000 in
theorem q_47_6156 (G : Nat × (Nat → Int32)) (d : Nat) (x1 : Int32) (s0 : Int32) (s1 : Int32) (σ : aH) : Lq G d M_47 (9, [some (.ref 11), some (.int x1)], [.int s0, .int s1, .ref 12], σ) = aCV (Rn G d 24 [.ref 12, .int s1, .int s0] σ) fun σ1 => Lq G d M_47 (12, [some (.ref 11), some (.int x1)], [], σ1) :=
  (aUn_eq (tkd G.1 G.2) tmi (aRun (tkd G.1 G.2) tmi tmt d) M_47 [] 1 (9, [some (.ref 11), some (.int x1)], [.int s0, .int s1, .ref 12], σ)).trans rfl
set_option maxRecDepth 20000 in
theorem q_47_6157 (G : Nat × (Nat → Int32)) (d : Nat) (x1 : Int32) (σ : aH) : Lq G d M_47 (12, [some (.ref 11), some (.int x1)], [], σ) = Lq G d M_47 (22, [some (.ref 11), some (.int x1)], [], (aSI σ 11 1 ((σ.1 11 1) + (1 : Int32)))) :=
  (aUn_eq (tkd G.1 G.2) tmi (aRun (tkd G.1 G.2) tmi tmt d) M_47 [] 6 (12, [some (.ref 11), some (.int x1)], [], σ)).trans rfl
set_option maxRecDepth 20000 in
theorem q_47_6158 (G : Nat × (Nat → Int32)) (d : Nat) (x1 : Int32) (σ : aH) : Lq G d M_47 (22, [some (.ref 11), some (.int x1)], [], σ) = some (.inl none, σ) :=
  (aUn_eq (tkd G.1 G.2) tmi (aRun (tkd G.1 G.2) tmi tmt d) M_47 [] 1 (22, [some (.ref 11), some (.int x1)], [], σ)).trans rfl
set_option maxRecDepth 20000 in
theorem q_49_6159 (G : Nat × (Nat → Int32)) (d : Nat)  (σ : aH) : Lq G d M_49 (0, [some (.ref 1), some (.ref 7), none], [], σ) = Lq G d M_49 (3, [some (.ref 1), some (.ref 7), none], [.ref 110, .ref 1], σ) :=
  (aUn_eq (tkd G.1 G.2) tmi (aRun (tkd G.1 G.2) tmi tmt d) M_49 [] 2 (0, [some (.ref 1), some (.ref 7), none], [], σ)).trans rfl
set_option maxRecDepth 20000 in
theorem q_49_6160 (G : Nat × (Nat → Int32)) (d : Nat)  (σ : aH) : Lq G d M_49 (3, [some (.ref 1), some (.ref 7), none], [.ref 110, .ref 1], σ) = aCI (Rn G d 25 [.ref 1, .ref 110] σ) fun v2 σ1 => Lq G d M_49 (6, [some (.ref 1), some (.ref 7), none], [.int v2], σ1) :=
  (aUn_eq (tkd G.1 G.2) tmi (aRun (tkd G.1 G.2) tmi tmt d) M_49 [] 1 (3, [some (.ref 1), some (.ref 7), none], [.ref 110, .ref 1], σ)).trans rfl
set_option maxRecDepth 20000 in
theorem q_49_6161 (G : Nat × (Nat → Int32)) (d : Nat) (s0 : Int32) (σ : aH) : Lq G d M_49 (6, [some (.ref 1), some (.ref 7), none], [.int s0], σ) = Lq G d M_49 (12, [some (.ref 1), some (.ref 7), some (.int s0)], [.int (2 : Int32), .int (σ.1 1 4)], σ) :=
  (aUn_eq (tkd G.1 G.2) tmi (aRun (tkd G.1 G.2) tmi tmt d) M_49 [] 4 (6, [some (.ref 1), some (.ref 7), none], [.int s0], σ)).trans rfl
set_option maxRecDepth 20000 in
theorem q_49_6162 (G : Nat × (Nat → Int32)) (d : Nat) (x2 : Int32) (s0 : Int32) (s1 : Int32) (σ : aH) : Lq G d M_49 (12, [some (.ref 1), some (.ref 7), some (.int x2)], [.int s0, .int s1], σ) = if s1 = s0 then Lq G d M_49 (15, [some (.ref 1), some (.ref 7), some (.int x2)], [], σ) else Lq G d M_49 (41, [some (.ref 1), some (.ref 7), some (.int x2)], [], σ) :=
  (aUn_eq (tkd G.1 G.2) tmi (aRun (tkd G.1 G.2) tmi tmt d) M_49 [] 1 (12, [some (.ref 1), some (.ref 7), some (.int x2)], [.int s0, .int s1], σ)).trans rfl
set_option maxRecDepth 20000 in
theorem q_49_6163 (G : Nat × (Nat → Int32)) (d : Nat) (x2 : Int32) (σ : aH) : Lq G d M_49 (15, [some (.ref 1), some (.ref 7), some (.int x2)], [], σ) = Lq G d M_49 (22, [some (.ref 1), some (.ref 7), some (.int x2)], [.int (9999 : Int32), .int (σ.1 1 5)], σ) :=
  (aUn_eq (tkd G.1 G.2) tmi (aRun (tkd G.1 G.2) tmi tmt d) M_49 [] 3 (15, [some (.ref 1), some (.ref 7), some (.int x2)], [], σ)).trans rfl
set_option maxRecDepth 20000 in
theorem q_49_6164 (G : Nat × (Nat → Int32)) (d : Nat) (x2 : Int32) (s0 : Int32) (s1 : Int32) (σ : aH) : Lq G d M_49 (22, [some (.ref 1), some (.ref 7), some (.int x2)], [.int s0, .int s1], σ) = if s1 ≤ s0 then Lq G d M_49 (30, [some (.ref 1), some (.ref 7), some (.int x2)], [], σ) else Lq G d M_49 (25, [some (.ref 1), some (.ref 7), some (.int x2)], [], σ) :=
  (aUn_eq (tkd G.1 G.2) tmi (aRun (tkd G.1 G.2) tmi tmt d) M_49 [] 1 (22, [some (.ref 1), some (.ref 7), some (.int x2)], [.int s0, .int s1], σ)).trans rfl
set_option maxRecDepth 20000 in
theorem q_49_6165 (G : Nat × (Nat → Int32)) (d : Nat) (x2 : Int32) (σ : aH) : Lq G d M_49 (30, [some (.ref 1), some (.ref 7), some (.int x2)], [], σ) = Lq G d M_49 (35, [some (.ref 1), some (.ref 7), some (.int x2)], [.int (σ.1 1 5), .ref 7], σ) :=
  (aUn_eq (tkd G.1 G.2) tmi (aRun (tkd G.1 G.2) tmi tmt d) M_49 [] 3 (30, [some (.ref 1), some (.ref 7), some (.int x2)], [], σ)).trans rfl
set_option maxRecDepth 20000 in
theorem q_49_6166 (G : Nat × (Nat → Int32)) (d : Nat) (x2 : Int32) (s0 : Int32) (σ : aH) : Lq G d M_49 (35, [some (.ref 1), some (.ref 7), some (.int x2)], [.int s0, .ref 7], σ) = aCV (Rn G d 50 [.ref 7, .int s0] σ) fun σ1 => Lq G d M_49 (38, [some (.ref 1), some (.ref 7), some (.int x2)], [], σ1) :=
  (aUn_eq (tkd G.1 G.2) tmi (aRun (tkd G.1 G.2) tmi tmt d) M_49 [] 1 (35, [some (.ref 1), some (.ref 7), some (.int x2)], [.int s0, .ref 7], σ)).trans rfl
set_option maxRecDepth 20000 in
theorem q_49_6167 (G : Nat × (Nat → Int32)) (d : Nat) (x2 : Int32) (σ : aH) : Lq G d M_49 (38, [some (.ref 1), some (.ref 7), some (.int x2)], [], σ) = Lq G d M_49 (75, [some (.ref 1), some (.ref 7), some (.int x2)], [], σ) :=
  (aUn_eq (tkd G.1 G.2) tmi (aRun (tkd G.1 G.2) tmi tmt d) M_49 [] 1 (38, [some (.ref 1), some (.ref 7), some (.int x2)], [], σ)).trans rfl
set_option maxRecDepth 20000 in
theorem q_49_6168 (G : Nat × (Nat → Int32)) (d : Nat) (x2 : Int32) (σ : aH) : Lq G d M_49 (75, [some (.ref 1), some (.ref 7), some (.int x2)], [], σ) = some (.inl none, σ) :=
  (aUn_eq (tkd G.1 G.2) tmi (aRun (tkd G.1 G.2) tmi tmt d) M_49 [] 1 (75, [some (.ref 1), some (.ref 7), some (.int x2)], [], σ)).trans rfl
set_option maxRecDepth 20000 in
theorem q_49_6169 (G : Nat × (Nat → Int32)) (d : Nat) (x2 : Int32) (σ : aH) : Lq G d M_49 (25, [some (.ref 1), some (.ref 7), some (.int x2)], [], σ) = Lq G d M_49 (27, [some (.ref 1), some (.ref 7), some (.int x2)], [.int (2 : Int32), .ref 1], σ) :=
  (aUn_eq (tkd G.1 G.2) tmi (aRun (tkd G.1 G.2) tmi tmt d) M_49 [] 2 (25, [some (.ref 1), some (.ref 7), some (.int x2)], [], σ)).trans rfl
set_option maxRecDepth 20000 in
theorem q_49_6170 (G : Nat × (Nat → Int32)) (d : Nat) (x2 : Int32) (s0 : Int32) (σ : aH) : Lq G d M_49 (27, [some (.ref 1), some (.ref 7), some (.int x2)], [.int s0, .ref 1], σ) = aCV (Rn G d 30 [.ref 1, .int s0] σ) fun σ1 => Lq G d M_49 (30, [some (.ref 1), some (.ref 7), some (.int x2)], [], σ1) :=
  (aUn_eq (tkd G.1 G.2) tmi (aRun (tkd G.1 G.2) tmi tmt d) M_49 [] 1 (27, [some (.ref 1), some (.ref 7), some (.int x2)], [.int s0, .ref 1], σ)).trans rfl
set_option maxRecDepth 20000 in
theorem q_49_6171 (G : Nat × (Nat → Int32)) (d : Nat) (x2 : Int32) (σ : aH) : Lq G d M_49 (41, [some (.ref 1), some (.ref 7), some (.int x2)], [], σ) = Lq G d M_49 (46, [some (.ref 1), some (.ref 7), some (.int x2)], [.int (1 : Int32), .int (σ.1 1 4)], σ) :=
  (aUn_eq (tkd G.1 G.2) tmi (aRun (tkd G.1 G.2) tmi tmt d) M_49 [] 3 (41, [some (.ref 1), some (.ref 7), some (.int x2)], [], σ)).trans rfl
set_option maxRecDepth 20000 in
theorem q_49_6172 (G : Nat × (Nat → Int32)) (d : Nat) (x2 : Int32) (s0 : Int32) (s1 : Int32) (σ : aH) : Lq G d M_49 (46, [some (.ref 1), some (.ref 7), some (.int x2)], [.int s0, .int s1], σ) = if s1 = s0 then Lq G d M_49 (49, [some (.ref 1), some (.ref 7), some (.int x2)], [], σ) else Lq G d M_49 (70, [some (.ref 1), some (.ref 7), some (.int x2)], [], σ) :=
  (aUn_eq (tkd G.1 G.2) tmi (aRun (tkd G.1 G.2) tmi tmt d) M_49 [] 1 (46, [some (.ref 1), some (.ref 7), some (.int x2)], [.int s0, .int s1], σ)).trans rfl
set_option maxRecDepth 20000 in
theorem q_49_6173 (G : Nat × (Nat → Int32)) (d : Nat) (x2 : Int32) (σ : aH) : Lq G d M_49 (49, [some (.ref 1), some (.ref 7), some (.int x2)], [], σ) = Lq G d M_49 (50, [some (.ref 1), some (.ref 7), some (.int x2)], [.int x2], σ) :=
  (aUn_eq (tkd G.1 G.2) tmi (aRun (tkd G.1 G.2) tmi tmt d) M_49 [] 1 (49, [some (.ref 1), some (.ref 7), some (.int x2)], [], σ)).trans rfl
set_option maxRecDepth 20000 in
theorem q_49_6174 (G : Nat × (Nat → Int32)) (d : Nat) (x2 : Int32) (s0 : Int32) (σ : aH) : Lq G d M_49 (50, [some (.ref 1), some (.ref 7), some (.int x2)], [.int s0], σ) = if 0 ≤ s0 then Lq G d M_49 (58, [some (.ref 1), some (.ref 7), some (.int x2)], [], σ) else Lq G d M_49 (53, [some (.ref 1), some (.ref 7), some (.int x2)], [], σ) :=
  (aUn_eq (tkd G.1 G.2) tmi (aRun (tkd G.1 G.2) tmi tmt d) M_49 [] 1 (50, [some (.ref 1), some (.ref 7), some (.int x2)], [.int s0], σ)).trans rfl
set_option maxRecDepth 20000 in
theorem q_49_6175 (G : Nat × (Nat → Int32)) (d : Nat) (x2 : Int32) (σ : aH) : Lq G d M_49 (58, [some (.ref 1), some (.ref 7), some (.int x2)], [], σ) = Lq G d M_49 (64, [some (.ref 1), some (.ref 7), some (.int x2)], [.int ((10000 : Int32) + x2), .ref 7], σ) :=
  (aUn_eq (tkd G.1 G.2) tmi (aRun (tkd G.1 G.2) tmi tmt d) M_49 [] 4 (58, [some (.ref 1), some (.ref 7), some (.int x2)], [], σ)).trans rfl
set_option maxRecDepth 20000 in
theorem q_49_6176 (G : Nat × (Nat → Int32)) (d : Nat) (x2 : Int32) (s0 : Int32) (σ : aH) : Lq G d M_49 (64, [some (.ref 1), some (.ref 7), some (.int x2)], [.int s0, .ref 7], σ) = aCV (Rn G d 50 [.ref 7, .int s0] σ) fun σ1 => Lq G d M_49 (67, [some (.ref 1), some (.ref 7), some (.int x2)], [], σ1) :=
  (aUn_eq (tkd G.1 G.2) tmi (aRun (tkd G.1 G.2) tmi tmt d) M_49 [] 1 (64, [some (.ref 1), some (.ref 7), some (.int x2)], [.int s0, .ref 7], σ)).trans rfl
set_option maxRecDepth 20000 in
theorem q_49_6177 (G : Nat × (Nat → Int32)) (d : Nat) (x2 : Int32) (σ : aH) : Lq G d M_49 (67, [some (.ref 1), some (.ref 7), some (.int x2)], [], σ) = Lq G d M_49 (75, [some (.ref 1), some (.ref 7), some (.int x2)], [], σ) :=
  (aUn_eq (tkd G.1 G.2) tmi (aRun (tkd G.1 G.2) tmi tmt d) M_49 [] 1 (67, [some (.ref 1), some (.ref 7), some (.int x2)], [], σ)).trans rfl
set_option maxRecDepth 20000 in
theorem q_49_6178 (G : Nat × (Nat → Int32)) (d : Nat) (x2 : Int32) (σ : aH) : Lq G d M_49 (53, [some (.ref 1), some (.ref 7), some (.int x2)], [], σ) = Lq G d M_49 (55, [some (.ref 1), some (.ref 7), some (.int x2)], [.int (3 : Int32), .ref 1], σ) :=
  (aUn_eq (tkd G.1 G.2) tmi (aRun (tkd G.1 G.2) tmi tmt d) M_49 [] 2 (53, [some (.ref 1), some (.ref 7), some (.int x2)], [], σ)).trans rfl
set_option maxRecDepth 20000 in
theorem q_49_6179 (G : Nat × (Nat → Int32)) (d : Nat) (x2 : Int32) (s0 : Int32) (σ : aH) : Lq G d M_49 (55, [some (.ref 1), some (.ref 7), some (.int x2)], [.int s0, .ref 1], σ) = aCV (Rn G d 30 [.ref 1, .int s0] σ) fun σ1 => Lq G d M_49 (58, [some (.ref 1), some (.ref 7), some (.int x2)], [], σ1) :=
  (aUn_eq (tkd G.1 G.2) tmi (aRun (tkd G.1 G.2) tmi tmt d) M_49 [] 1 (55, [some (.ref 1), some (.ref 7), some (.int x2)], [.int s0, .ref 1], σ)).trans rfl
set_option maxRecDepth 20000 in
theorem q_49_6180 (G : Nat × (Nat → Int32)) (d : Nat) (x2 : Int32) (σ : aH) : Lq G d M_49 (70, [some (.ref 1), some (.ref 7), some (.int x2)], [], σ) = Lq G d M_49 (72, [some (.ref 1), some (.ref 7), some (.int x2)], [.int (1 : Int32), .ref 1], σ) :=
  (aUn_eq (tkd G.1 G.2) tmi (aRun (tkd G.1 G.2) tmi tmt d) M_49 [] 2 (70, [some (.ref 1), some (.ref 7), some (.int x2)], [], σ)).trans rfl
set_option maxRecDepth 20000 in
theorem q_49_6181 (G : Nat × (Nat → Int32)) (d : Nat) (x2 : Int32) (s0 : Int32) (σ : aH) : Lq G d M_49 (72, [some (.ref 1), some (.ref 7), some (.int x2)], [.int s0, .ref 1], σ) = aCV (Rn G d 30 [.ref 1, .int s0] σ) fun σ1 => Lq G d M_49 (75, [some (.ref 1), some (.ref 7), some (.int x2)], [], σ1) :=
  (aUn_eq (tkd G.1 G.2) tmi (aRun (tkd G.1 G.2) tmi tmt d) M_49 [] 1 (72, [some (.ref 1), some (.ref 7), some (.int x2)], [.int s0, .ref 1], σ)).trans rfl
set_option maxRecDepth 20000 in
theorem q_71_6182 (G : Nat × (Nat → Int32)) (d : Nat) (x0 : Int32) (x1 : Int32) (x2 : Int32) (x3 : Int32) (x4 : Int32) (x5 : Int32) (x6 : Int32) (σ : aH) : Lq G d M_71 (0, [some (.int x0), some (.int x1), some (.int x2), some (.int x3), some (.int x4), some (.int x5), some (.int x6), none, none], [], σ) = Lq G d M_71 (8, [some (.int x0), some (.int x1), some (.int x2), some (.int x3), some (.int x4), some (.int x5), some (.int x6), some (.long ((x0 - (96 : Int32))).toInt64), none], [.int x1], σ) :=
  (aUn_eq (tkd G.1 G.2) tmi (aRun (tkd G.1 G.2) tmi tmt d) M_71 [] 6 (0, [some (.int x0), some (.int x1), some (.int x2), some (.int x3), some (.int x4), some (.int x5), some (.int x6), none, none], [], σ)).trans rfl
set_option maxRecDepth 20000 in
theorem q_71_6183 (G : Nat × (Nat → Int32)) (d : Nat) (x0 : Int32) (x1 : Int32) (x2 : Int32) (x3 : Int32) (x4 : Int32) (x5 : Int32) (x6 : Int32) (x7 : Int64) (s0 : Int32) (σ : aH) : Lq G d M_71 (8, [some (.int x0), some (.int x1), some (.int x2), some (.int x3), some (.int x4), some (.int x5), some (.int x6), some (.long x7), none], [.int s0], σ) = if s0 = 0 then Lq G d M_71 (23, [some (.int x0), some (.int x1), some (.int x2), some (.int x3), some (.int x4), some (.int x5), some (.int x6), some (.long x7), none], [], σ) else Lq G d M_71 (11, [some (.int x0), some (.int x1), some (.int x2), some (.int x3), some (.int x4), some (.int x5), some (.int x6), some (.long x7), none], [], σ) :=
  (aUn_eq (tkd G.1 G.2) tmi (aRun (tkd G.1 G.2) tmi tmt d) M_71 [] 1 (8, [some (.int x0), some (.int x1), some (.int x2), some (.int x3), some (.int x4), some (.int x5), some (.int x6), some (.long x7), none], [.int s0], σ)).trans rfl
set_option maxRecDepth 20000 in
theorem q_71_6184 (G : Nat × (Nat → Int32)) (d : Nat) (x0 : Int32) (x1 : Int32) (x2 : Int32) (x3 : Int32) (x4 : Int32) (x5 : Int32) (x6 : Int32) (x7 : Int64) (σ : aH) : Lq G d M_71 (23, [some (.int x0), some (.int x1), some (.int x2), some (.int x3), some (.int x4), some (.int x5), some (.int x6), some (.long x7), none], [], σ) = Lq G d M_71 (24, [some (.int x0), some (.int x1), some (.int x2), some (.int x3), some (.int x4), some (.int x5), some (.int x6), some (.long x7), none], [.int x2], σ) :=
  (aUn_eq (tkd G.1 G.2) tmi (aRun (tkd G.1 G.2) tmi tmt d) M_71 [] 1 (23, [some (.int x0), some (.int x1), some (.int x2), some (.int x3), some (.int x4), some (.int x5), some (.int x6), some (.long x7), none], [], σ)).trans rfl
set_option maxRecDepth 20000 in
theorem q_71_6185 (G : Nat × (Nat → Int32)) (d : Nat) (x0 : Int32) (x1 : Int32) (x2 : Int32) (x3 : Int32) (x4 : Int32) (x5 : Int32) (x6 : Int32) (x7 : Int64) (s0 : Int32) (σ : aH) : Lq G d M_71 (24, [some (.int x0), some (.int x1), some (.int x2), some (.int x3), some (.int x4), some (.int x5), some (.int x6), some (.long x7), none], [.int s0], σ) = if s0 = 0 then Lq G d M_71 (39, [some (.int x0), some (.int x1), some (.int x2), some (.int x3), some (.int x4), some (.int x5), some (.int x6), some (.long x7), none], [], σ) else Lq G d M_71 (27, [some (.int x0), some (.int x1), some (.int x2), some (.int x3), some (.int x4), some (.int x5), some (.int x6), some (.long x7), none], [], σ) :=
  (aUn_eq (tkd G.1 G.2) tmi (aRun (tkd G.1 G.2) tmi tmt d) M_71 [] 1 (24, [some (.int x0), some (.int x1), some (.int x2), some (.int x3), some (.int x4), some (.int x5), some (.int x6), some (.long x7), none], [.int s0], σ)).trans rfl
set_option maxRecDepth 20000 in
theorem q_71_6186 (G : Nat × (Nat → Int32)) (d : Nat) (x0 : Int32) (x1 : Int32) (x2 : Int32) (x3 : Int32) (x4 : Int32) (x5 : Int32) (x6 : Int32) (x7 : Int64) (σ : aH) : Lq G d M_71 (39, [some (.int x0), some (.int x1), some (.int x2), some (.int x3), some (.int x4), some (.int x5), some (.int x6), some (.long x7), none], [], σ) = Lq G d M_71 (40, [some (.int x0), some (.int x1), some (.int x2), some (.int x3), some (.int x4), some (.int x5), some (.int x6), some (.long x7), none], [.int x3], σ) :=
  (aUn_eq (tkd G.1 G.2) tmi (aRun (tkd G.1 G.2) tmi tmt d) M_71 [] 1 (39, [some (.int x0), some (.int x1), some (.int x2), some (.int x3), some (.int x4), some (.int x5), some (.int x6), some (.long x7), none], [], σ)).trans rfl
set_option maxRecDepth 20000 in
theorem q_71_6187 (G : Nat × (Nat → Int32)) (d : Nat) (x0 : Int32) (x1 : Int32) (x2 : Int32) (x3 : Int32) (x4 : Int32) (x5 : Int32) (x6 : Int32) (x7 : Int64) (s0 : Int32) (σ : aH) : Lq G d M_71 (40, [some (.int x0), some (.int x1), some (.int x2), some (.int x3), some (.int x4), some (.int x5), some (.int x6), some (.long x7), none], [.int s0], σ) = if s0 = 0 then Lq G d M_71 (55, [some (.int x0), some (.int x1), some (.int x2), some (.int x3), some (.int x4), some (.int x5), some (.int x6), some (.long x7), none], [], σ) else Lq G d M_71 (43, [some (.int x0), some (.int x1), some (.int x2), some (.int x3), some (.int x4), some (.int x5), some (.int x6), some (.long x7), none], [], σ) :=
  (aUn_eq (tkd G.1 G.2) tmi (aRun (tkd G.1 G.2) tmi tmt d) M_71 [] 1 (40, [some (.int x0), some (.int x1), some (.int x2), some (.int x3), some (.int x4), some (.int x5), some (.int x6), some (.long x7), none], [.int s0], σ)).trans rfl
set_option maxRecDepth 20000 in
theorem q_71_6188 (G : Nat × (Nat → Int32)) (d : Nat) (x0 : Int32) (x1 : Int32) (x2 : Int32) (x3 : Int32) (x4 : Int32) (x5 : Int32) (x6 : Int32) (x7 : Int64) (σ : aH) : Lq G d M_71 (55, [some (.int x0), some (.int x1), some (.int x2), some (.int x3), some (.int x4), some (.int x5), some (.int x6), some (.long x7), none], [], σ) = Lq G d M_71 (57, [some (.int x0), some (.int x1), some (.int x2), some (.int x3), some (.int x4), some (.int x5), some (.int x6), some (.long x7), none], [.int x4], σ) :=
  (aUn_eq (tkd G.1 G.2) tmi (aRun (tkd G.1 G.2) tmi tmt d) M_71 [] 1 (55, [some (.int x0), some (.int x1), some (.int x2), some (.int x3), some (.int x4), some (.int x5), some (.int x6), some (.long x7), none], [], σ)).trans rfl
set_option maxRecDepth 20000 in
theorem q_71_6189 (G : Nat × (Nat → Int32)) (d : Nat) (x0 : Int32) (x1 : Int32) (x2 : Int32) (x3 : Int32) (x4 : Int32) (x5 : Int32) (x6 : Int32) (x7 : Int64) (s0 : Int32) (σ : aH) : Lq G d M_71 (57, [some (.int x0), some (.int x1), some (.int x2), some (.int x3), some (.int x4), some (.int x5), some (.int x6), some (.long x7), none], [.int s0], σ) = if s0 = 0 then Lq G d M_71 (73, [some (.int x0), some (.int x1), some (.int x2), some (.int x3), some (.int x4), some (.int x5), some (.int x6), some (.long x7), none], [], σ) else Lq G d M_71 (60, [some (.int x0), some (.int x1), some (.int x2), some (.int x3), some (.int x4), some (.int x5), some (.int x6), some (.long x7), none], [], σ) :=
  (aUn_eq (tkd G.1 G.2) tmi (aRun (tkd G.1 G.2) tmi tmt d) M_71 [] 1 (57, [some (.int x0), some (.int x1), some (.int x2), some (.int x3), some (.int x4), some (.int x5), some (.int x6), some (.long x7), none], [.int s0], σ)).trans rfl
set_option maxRecDepth 20000 in
theorem q_71_6190 (G : Nat × (Nat → Int32)) (d : Nat) (x0 : Int32) (x1 : Int32) (x2 : Int32) (x3 : Int32) (x4 : Int32) (x5 : Int32) (x6 : Int32) (x7 : Int64) (σ : aH) : Lq G d M_71 (73, [some (.int x0), some (.int x1), some (.int x2), some (.int x3), some (.int x4), some (.int x5), some (.int x6), some (.long x7), none], [], σ) = Lq G d M_71 (75, [some (.int x0), some (.int x1), some (.int x2), some (.int x3), some (.int x4), some (.int x5), some (.int x6), some (.long x7), none], [.int x5], σ) :=
  (aUn_eq (tkd G.1 G.2) tmi (aRun (tkd G.1 G.2) tmi tmt d) M_71 [] 1 (73, [some (.int x0), some (.int x1), some (.int x2), some (.int x3), some (.int x4), some (.int x5), some (.int x6), some (.long x7), none], [], σ)).trans rfl
set_option maxRecDepth 20000 in
theorem q_71_6191 (G : Nat × (Nat → Int32)) (d : Nat) (x0 : Int32) (x1 : Int32) (x2 : Int32) (x3 : Int32) (x4 : Int32) (x5 : Int32) (x6 : Int32) (x7 : Int64) (s0 : Int32) (σ : aH) : Lq G d M_71 (75, [some (.int x0), some (.int x1), some (.int x2), some (.int x3), some (.int x4), some (.int x5), some (.int x6), some (.long x7), none], [.int s0], σ) = if s0 = 0 then Lq G d M_71 (91, [some (.int x0), some (.int x1), some (.int x2), some (.int x3), some (.int x4), some (.int x5), some (.int x6), some (.long x7), none], [], σ) else Lq G d M_71 (78, [some (.int x0), some (.int x1), some (.int x2), some (.int x3), some (.int x4), some (.int x5), some (.int x6), some (.long x7), none], [], σ) :=
  (aUn_eq (tkd G.1 G.2) tmi (aRun (tkd G.1 G.2) tmi tmt d) M_71 [] 1 (75, [some (.int x0), some (.int x1), some (.int x2), some (.int x3), some (.int x4), some (.int x5), some (.int x6), some (.long x7), none], [.int s0], σ)).trans rfl
set_option maxRecDepth 20000 in
theorem q_71_6192 (G : Nat × (Nat → Int32)) (d : Nat) (x0 : Int32) (x1 : Int32) (x2 : Int32) (x3 : Int32) (x4 : Int32) (x5 : Int32) (x6 : Int32) (x7 : Int64) (σ : aH) : Lq G d M_71 (91, [some (.int x0), some (.int x1), some (.int x2), some (.int x3), some (.int x4), some (.int x5), some (.int x6), some (.long x7), none], [], σ) = Lq G d M_71 (93, [some (.int x0), some (.int x1), some (.int x2), some (.int x3), some (.int x4), some (.int x5), some (.int x6), some (.long x7), none], [.int x6], σ) :=
  (aUn_eq (tkd G.1 G.2) tmi (aRun (tkd G.1 G.2) tmi tmt d) M_71 [] 1 (91, [some (.int x0), some (.int x1), some (.int x2), some (.int x3), some (.int x4), some (.int x5), some (.int x6), some (.long x7), none], [], σ)).trans rfl
set_option maxRecDepth 20000 in
theorem q_71_6193 (G : Nat × (Nat → Int32)) (d : Nat) (x0 : Int32) (x1 : Int32) (x2 : Int32) (x3 : Int32) (x4 : Int32) (x5 : Int32) (x6 : Int32) (x7 : Int64) (s0 : Int32) (σ : aH) : Lq G d M_71 (93, [some (.int x0), some (.int x1), some (.int x2), some (.int x3), some (.int x4), some (.int x5), some (.int x6), some (.long x7), none], [.int s0], σ) = if s0 = 0 then Lq G d M_71 (109, [some (.int x0), some (.int x1), some (.int x2), some (.int x3), some (.int x4), some (.int x5), some (.int x6), some (.long x7), none], [], σ) else Lq G d M_71 (96, [some (.int x0), some (.int x1), some (.int x2), some (.int x3), some (.int x4), some (.int x5), some (.int x6), some (.long x7), none], [], σ) :=
  (aUn_eq (tkd G.1 G.2) tmi (aRun (tkd G.1 G.2) tmi tmt d) M_71 [] 1 (93, [some (.int x0), some (.int x1), some (.int x2), some (.int x3), some (.int x4), some (.int x5), some (.int x6), some (.long x7), none], [.int s0], σ)).trans rfl
set_option maxRecDepth 20000 in
theorem q_71_6194 (G : Nat × (Nat → Int32)) (d : Nat) (x0 : Int32) (x1 : Int32) (x2 : Int32) (x3 : Int32) (x4 : Int32) (x5 : Int32) (x6 : Int32) (x7 : Int64) (σ : aH) : Lq G d M_71 (109, [some (.int x0), some (.int x1), some (.int x2), some (.int x3), some (.int x4), some (.int x5), some (.int x6), some (.long x7), none], [], σ) = Lq G d M_71 (111, [some (.int x0), some (.int x1), some (.int x2), some (.int x3), some (.int x4), some (.int x5), some (.int x6), some (.long x7), none], [.long x7], σ) :=
  (aUn_eq (tkd G.1 G.2) tmi (aRun (tkd G.1 G.2) tmi tmt d) M_71 [] 1 (109, [some (.int x0), some (.int x1), some (.int x2), some (.int x3), some (.int x4), some (.int x5), some (.int x6), some (.long x7), none], [], σ)).trans rfl
set_option maxRecDepth 20000 in
theorem q_71_6195 (G : Nat × (Nat → Int32)) (d : Nat) (x0 : Int32) (x1 : Int32) (x2 : Int32) (x3 : Int32) (x4 : Int32) (x5 : Int32) (x6 : Int32) (x7 : Int64) (s0 : Int64) (σ : aH) : Lq G d M_71 (111, [some (.int x0), some (.int x1), some (.int x2), some (.int x3), some (.int x4), some (.int x5), some (.int x6), some (.long x7), none], [.long s0], σ) = some (.inl (some (.long s0)), σ) :=
  (aUn_eq (tkd G.1 G.2) tmi (aRun (tkd G.1 G.2) tmi tmt d) M_71 [] 1 (111, [some (.int x0), some (.int x1), some (.int x2), some (.int x3), some (.int x4), some (.int x5), some (.int x6), some (.long x7), none], [.long s0], σ)).trans rfl
set_option maxRecDepth 20000 in
theorem q_71_6196 (G : Nat × (Nat → Int32)) (d : Nat) (x0 : Int32) (x1 : Int32) (x2 : Int32) (x3 : Int32) (x4 : Int32) (x5 : Int32) (x6 : Int32) (x7 : Int64) (σ : aH) : Lq G d M_71 (96, [some (.int x0), some (.int x1), some (.int x2), some (.int x3), some (.int x4), some (.int x5), some (.int x6), some (.long x7), none], [], σ) = Lq G d M_71 (111, [some (.int x0), some (.int x1), some (.int x2), some (.int x3), some (.int x4), some (.int x5), some (.int x6), some (.long ((x7 <<< (((5 : Int32)).toInt64 &&& 63)) ||| ((x6 - (96 : Int32))).toInt64)), none], [.long ((x7 <<< (((5 : Int32)).toInt64 &&& 63)) ||| ((x6 - (96 : Int32))).toInt64)], σ) :=
  (aUn_eq (tkd G.1 G.2) tmi (aRun (tkd G.1 G.2) tmi tmt d) M_71 [] 10 (96, [some (.int x0), some (.int x1), some (.int x2), some (.int x3), some (.int x4), some (.int x5), some (.int x6), some (.long x7), none], [], σ)).trans rfl
set_option maxRecDepth 20000 in
theorem q_71_6197 (G : Nat × (Nat → Int32)) (d : Nat) (x0 : Int32) (x1 : Int32) (x2 : Int32) (x3 : Int32) (x4 : Int32) (x5 : Int32) (x6 : Int32) (x7 : Int64) (σ : aH) : Lq G d M_71 (78, [some (.int x0), some (.int x1), some (.int x2), some (.int x3), some (.int x4), some (.int x5), some (.int x6), some (.long x7), none], [], σ) = Lq G d M_71 (93, [some (.int x0), some (.int x1), some (.int x2), some (.int x3), some (.int x4), some (.int x5), some (.int x6), some (.long ((x7 <<< (((5 : Int32)).toInt64 &&& 63)) ||| ((x5 - (96 : Int32))).toInt64)), none], [.int x6], σ) :=
  (aUn_eq (tkd G.1 G.2) tmi (aRun (tkd G.1 G.2) tmi tmt d) M_71 [] 10 (78, [some (.int x0), some (.int x1), some (.int x2), some (.int x3), some (.int x4), some (.int x5), some (.int x6), some (.long x7), none], [], σ)).trans rfl
set_option maxRecDepth 20000 in
theorem q_71_6198 (G : Nat × (Nat → Int32)) (d : Nat) (x0 : Int32) (x1 : Int32) (x2 : Int32) (x3 : Int32) (x4 : Int32) (x5 : Int32) (x6 : Int32) (x7 : Int64) (σ : aH) : Lq G d M_71 (60, [some (.int x0), some (.int x1), some (.int x2), some (.int x3), some (.int x4), some (.int x5), some (.int x6), some (.long x7), none], [], σ) = Lq G d M_71 (75, [some (.int x0), some (.int x1), some (.int x2), some (.int x3), some (.int x4), some (.int x5), some (.int x6), some (.long ((x7 <<< (((5 : Int32)).toInt64 &&& 63)) ||| ((x4 - (96 : Int32))).toInt64)), none], [.int x5], σ) :=
  (aUn_eq (tkd G.1 G.2) tmi (aRun (tkd G.1 G.2) tmi tmt d) M_71 [] 10 (60, [some (.int x0), some (.int x1), some (.int x2), some (.int x3), some (.int x4), some (.int x5), some (.int x6), some (.long x7), none], [], σ)).trans rfl
set_option maxRecDepth 20000 in
theorem q_71_6199 (G : Nat × (Nat → Int32)) (d : Nat) (x0 : Int32) (x1 : Int32) (x2 : Int32) (x3 : Int32) (x4 : Int32) (x5 : Int32) (x6 : Int32) (x7 : Int64) (σ : aH) : Lq G d M_71 (43, [some (.int x0), some (.int x1), some (.int x2), some (.int x3), some (.int x4), some (.int x5), some (.int x6), some (.long x7), none], [], σ) = Lq G d M_71 (57, [some (.int x0), some (.int x1), some (.int x2), some (.int x3), some (.int x4), some (.int x5), some (.int x6), some (.long ((x7 <<< (((5 : Int32)).toInt64 &&& 63)) ||| ((x3 - (96 : Int32))).toInt64)), none], [.int x4], σ) :=
  (aUn_eq (tkd G.1 G.2) tmi (aRun (tkd G.1 G.2) tmi tmt d) M_71 [] 10 (43, [some (.int x0), some (.int x1), some (.int x2), some (.int x3), some (.int x4), some (.int x5), some (.int x6), some (.long x7), none], [], σ)).trans rfl
set_option maxRecDepth 20000 in
theorem q_71_6200 (G : Nat × (Nat → Int32)) (d : Nat) (x0 : Int32) (x1 : Int32) (x2 : Int32) (x3 : Int32) (x4 : Int32) (x5 : Int32) (x6 : Int32) (x7 : Int64) (σ : aH) : Lq G d M_71 (27, [some (.int x0), some (.int x1), some (.int x2), some (.int x3), some (.int x4), some (.int x5), some (.int x6), some (.long x7), none], [], σ) = Lq G d M_71 (40, [some (.int x0), some (.int x1), some (.int x2), some (.int x3), some (.int x4), some (.int x5), some (.int x6), some (.long ((x7 <<< (((5 : Int32)).toInt64 &&& 63)) ||| ((x2 - (96 : Int32))).toInt64)), none], [.int x3], σ) :=
  (aUn_eq (tkd G.1 G.2) tmi (aRun (tkd G.1 G.2) tmi tmt d) M_71 [] 10 (27, [some (.int x0), some (.int x1), some (.int x2), some (.int x3), some (.int x4), some (.int x5), some (.int x6), some (.long x7), none], [], σ)).trans rfl
set_option maxRecDepth 20000 in
theorem q_71_6201 (G : Nat × (Nat → Int32)) (d : Nat) (x0 : Int32) (x1 : Int32) (x2 : Int32) (x3 : Int32) (x4 : Int32) (x5 : Int32) (x6 : Int32) (x7 : Int64) (σ : aH) : Lq G d M_71 (11, [some (.int x0), some (.int x1), some (.int x2), some (.int x3), some (.int x4), some (.int x5), some (.int x6), some (.long x7), none], [], σ) = Lq G d M_71 (24, [some (.int x0), some (.int x1), some (.int x2), some (.int x3), some (.int x4), some (.int x5), some (.int x6), some (.long ((x7 <<< (((5 : Int32)).toInt64 &&& 63)) ||| ((x1 - (96 : Int32))).toInt64)), none], [.int x2], σ) :=
  (aUn_eq (tkd G.1 G.2) tmi (aRun (tkd G.1 G.2) tmi tmt d) M_71 [] 10 (11, [some (.int x0), some (.int x1), some (.int x2), some (.int x3), some (.int x4), some (.int x5), some (.int x6), some (.long x7), none], [], σ)).trans rfl
set_option maxRecDepth 20000 in
theorem q_84_6202 (G : Nat × (Nat → Int32)) (d : Nat)  (σ : aH) : Lq G d M_84 (0, [some (.ref 33)], [], σ) = Lq G d M_84 (6, [some (.ref 33)], [.int (6 : Int32), .int (σ.1 33 33)], σ) :=
  (aUn_eq (tkd G.1 G.2) tmi (aRun (tkd G.1 G.2) tmi tmt d) M_84 [] 3 (0, [some (.ref 33)], [], σ)).trans rfl
set_option maxRecDepth 20000 in
theorem q_84_6203 (G : Nat × (Nat → Int32)) (d : Nat) (s0 : Int32) (s1 : Int32) (σ : aH) : Lq G d M_84 (6, [some (.ref 33)], [.int s0, .int s1], σ) = if s0 ≤ s1 then Lq G d M_84 (30, [some (.ref 33)], [], σ) else Lq G d M_84 (9, [some (.ref 33)], [], σ) :=
  (aUn_eq (tkd G.1 G.2) tmi (aRun (tkd G.1 G.2) tmi tmt d) M_84 [] 1 (6, [some (.ref 33)], [.int s0, .int s1], σ)).trans rfl
set_option maxRecDepth 20000 in
theorem q_84_6204 (G : Nat × (Nat → Int32)) (d : Nat)  (σ : aH) : Lq G d M_84 (30, [some (.ref 33)], [], σ) = Lq G d M_84 (36, [some (.ref 33)], [.int (2 : Int32), .int (σ.1 33 20), .ref 33], σ) :=
  (aUn_eq (tkd G.1 G.2) tmi (aRun (tkd G.1 G.2) tmi tmt d) M_84 [] 4 (30, [some (.ref 33)], [], σ)).trans rfl
set_option maxRecDepth 20000 in
theorem q_84_6205 (G : Nat × (Nat → Int32)) (d : Nat) (s0 : Int32) (s1 : Int32) (σ : aH) : Lq G d M_84 (36, [some (.ref 33)], [.int s0, .int s1, .ref 33], σ) = if s1 = s0 then Lq G d M_84 (56, [some (.ref 33)], [.ref 33], σ) else Lq G d M_84 (39, [some (.ref 33)], [.ref 33], σ) :=
  (aUn_eq (tkd G.1 G.2) tmi (aRun (tkd G.1 G.2) tmi tmt d) M_84 [] 1 (36, [some (.ref 33)], [.int s0, .int s1, .ref 33], σ)).trans rfl
set_option maxRecDepth 20000 in
theorem q_84_6206 (G : Nat × (Nat → Int32)) (d : Nat)  (σ : aH) : Lq G d M_84 (56, [some (.ref 33)], [.ref 33], σ) = Lq G d M_84 (61, [some (.ref 33)], [.int (2 : Int32), .ref 33], σ) :=
  (aUn_eq (tkd G.1 G.2) tmi (aRun (tkd G.1 G.2) tmi tmt d) M_84 [] 2 (56, [some (.ref 33)], [.ref 33], σ)).trans rfl
set_option maxRecDepth 20000 in
theorem q_84_6207 (G : Nat × (Nat → Int32)) (d : Nat) (s0 : Int32) (σ : aH) : Lq G d M_84 (61, [some (.ref 33)], [.int s0, .ref 33], σ) = aCV (Rn G d 73 [.ref 33, .int s0] σ) fun σ1 => Lq G d M_84 (64, [some (.ref 33)], [], σ1) :=
  (aUn_eq (tkd G.1 G.2) tmi (aRun (tkd G.1 G.2) tmi tmt d) M_84 [] 1 (61, [some (.ref 33)], [.int s0, .ref 33], σ)).trans rfl
set_option maxRecDepth 20000 in
theorem q_84_6208 (G : Nat × (Nat → Int32)) (d : Nat)  (σ : aH) : Lq G d M_84 (64, [some (.ref 33)], [], σ) = some (.inl none, σ) :=
  (aUn_eq (tkd G.1 G.2) tmi (aRun (tkd G.1 G.2) tmi tmt d) M_84 [] 1 (64, [some (.ref 33)], [], σ)).trans rfl
set_option maxRecDepth 20000 in
theorem q_84_6209 (G : Nat × (Nat → Int32)) (d : Nat)  (σ : aH) : Lq G d M_84 (39, [some (.ref 33)], [.ref 33], σ) = Lq G d M_84 (44, [some (.ref 33)], [.int (1 : Int32), .int (σ.1 33 20), .ref 33], σ) :=
  (aUn_eq (tkd G.1 G.2) tmi (aRun (tkd G.1 G.2) tmi tmt d) M_84 [] 3 (39, [some (.ref 33)], [.ref 33], σ)).trans rfl
set_option maxRecDepth 20000 in
theorem q_84_6210 (G : Nat × (Nat → Int32)) (d : Nat) (s0 : Int32) (s1 : Int32) (σ : aH) : Lq G d M_84 (44, [some (.ref 33)], [.int s0, .int s1, .ref 33], σ) = if s1 = s0 then Lq G d M_84 (56, [some (.ref 33)], [.ref 33], σ) else Lq G d M_84 (47, [some (.ref 33)], [.ref 33], σ) :=
  (aUn_eq (tkd G.1 G.2) tmi (aRun (tkd G.1 G.2) tmi tmt d) M_84 [] 1 (44, [some (.ref 33)], [.int s0, .int s1, .ref 33], σ)).trans rfl
set_option maxRecDepth 20000 in
theorem q_84_6211 (G : Nat × (Nat → Int32)) (d : Nat)  (σ : aH) : Lq G d M_84 (47, [some (.ref 33)], [.ref 33], σ) = Lq G d M_84 (50, [some (.ref 33)], [.int (40 : Int32), .ref 33, .ref 33], σ) :=
  (aUn_eq (tkd G.1 G.2) tmi (aRun (tkd G.1 G.2) tmi tmt d) M_84 [] 2 (47, [some (.ref 33)], [.ref 33], σ)).trans rfl
set_option maxRecDepth 20000 in
theorem q_84_6212 (G : Nat × (Nat → Int32)) (d : Nat) (s0 : Int32) (σ : aH) : Lq G d M_84 (50, [some (.ref 33)], [.int s0, .ref 33, .ref 33], σ) = aCI (Rn G d 85 [.ref 33, .int s0] σ) fun v2 σ1 => Lq G d M_84 (53, [some (.ref 33)], [.int v2, .ref 33], σ1) :=
  (aUn_eq (tkd G.1 G.2) tmi (aRun (tkd G.1 G.2) tmi tmt d) M_84 [] 1 (50, [some (.ref 33)], [.int s0, .ref 33, .ref 33], σ)).trans rfl
set_option maxRecDepth 20000 in
theorem q_84_6213 (G : Nat × (Nat → Int32)) (d : Nat) (s0 : Int32) (σ : aH) : Lq G d M_84 (53, [some (.ref 33)], [.int s0, .ref 33], σ) = if s0 = 0 then Lq G d M_84 (60, [some (.ref 33)], [.ref 33], σ) else Lq G d M_84 (56, [some (.ref 33)], [.ref 33], σ) :=
  (aUn_eq (tkd G.1 G.2) tmi (aRun (tkd G.1 G.2) tmi tmt d) M_84 [] 1 (53, [some (.ref 33)], [.int s0, .ref 33], σ)).trans rfl
set_option maxRecDepth 20000 in
theorem q_84_6214 (G : Nat × (Nat → Int32)) (d : Nat)  (σ : aH) : Lq G d M_84 (60, [some (.ref 33)], [.ref 33], σ) = Lq G d M_84 (61, [some (.ref 33)], [.int (1 : Int32), .ref 33], σ) :=
  (aUn_eq (tkd G.1 G.2) tmi (aRun (tkd G.1 G.2) tmi tmt d) M_84 [] 1 (60, [some (.ref 33)], [.ref 33], σ)).trans rfl
set_option maxRecDepth 20000 in
theorem q_84_6215 (G : Nat × (Nat → Int32)) (d : Nat)  (σ : aH) : Lq G d M_84 (9, [some (.ref 33)], [], σ) = Lq G d M_84 (28, [some (.ref 33)], [.int (0 : Int32), .int ((σ.1 33 33) + (1 : Int32)), .ref 49], (aSI σ 33 33 ((σ.1 33 33) + (1 : Int32)))) :=
  (aUn_eq (tkd G.1 G.2) tmi (aRun (tkd G.1 G.2) tmi tmt d) M_84 [] 11 (9, [some (.ref 33)], [], σ)).trans rfl
set_option maxRecDepth 20000 in
theorem q_84_6216 (G : Nat × (Nat → Int32)) (d : Nat) (s0 : Int32) (s1 : Int32) (σ : aH) : Lq G d M_84 (28, [some (.ref 33)], [.int s0, .int s1, .ref 49], σ) = aIx (s1) 9 fun j1 => Lq G d M_84 (29, [some (.ref 33)], [], (aSI σ 49 j1 (vp_nar .boolean s0))) :=
  (aUn_eq (tkd G.1 G.2) tmi (aRun (tkd G.1 G.2) tmi tmt d) M_84 [] 1 (28, [some (.ref 33)], [.int s0, .int s1, .ref 49], σ)).trans rfl
set_option maxRecDepth 20000 in
theorem q_84_6217 (G : Nat × (Nat → Int32)) (d : Nat)  (σ : aH) : Lq G d M_84 (29, [some (.ref 33)], [], σ) = some (.inl none, σ) :=
  (aUn_eq (tkd G.1 G.2) tmi (aRun (tkd G.1 G.2) tmi tmt d) M_84 [] 1 (29, [some (.ref 33)], [], σ)).trans rfl
set_option maxRecDepth 20000 in
theorem q_86_6218 (G : Nat × (Nat → Int32)) (d : Nat) (x1 : Int32) (σ : aH) : Lq G d M_86 (0, [some (.ref 33), some (.int x1), none, none, none], [], σ) = Lq G d M_86 (4, [some (.ref 33), none, some (.int x1), some (.int (1 : Int32)), none], [], σ) :=
  (aUn_eq (tkd G.1 G.2) tmi (aRun (tkd G.1 G.2) tmi tmt d) M_86 [] 4 (0, [some (.ref 33), some (.int x1), none, none, none], [], σ)).trans rfl
set_option maxRecDepth 20000 in
theorem q_86_6219 (G : Nat × (Nat → Int32)) (d : Nat) (x2 : Int32) (x3 : Int32) (σ : aH) : Lq G d M_86 (4, [some (.ref 33), none, some (.int x2), some (.int x3), none], [], σ) = Lq G d M_86 (5, [some (.ref 33), none, some (.int x2), some (.int x3), none], [.int x3], σ) :=
  (aUn_eq (tkd G.1 G.2) tmi (aRun (tkd G.1 G.2) tmi tmt d) M_86 [] 1 (4, [some (.ref 33), none, some (.int x2), some (.int x3), none], [], σ)).trans rfl
set_option maxRecDepth 20000 in
theorem q_86_6220 (G : Nat × (Nat → Int32)) (d : Nat) (x2 : Int32) (x3 : Int32) (s0 : Int32) (σ : aH) : Lq G d M_86 (5, [some (.ref 33), none, some (.int x2), some (.int x3), none], [.int s0], σ) = if s0 = 0 then Lq G d M_86 (120, [some (.ref 33), none, some (.int x2), some (.int x3), none], [], σ) else Lq G d M_86 (8, [some (.ref 33), none, some (.int x2), some (.int x3), none], [], σ) :=
  (aUn_eq (tkd G.1 G.2) tmi (aRun (tkd G.1 G.2) tmi tmt d) M_86 [] 1 (5, [some (.ref 33), none, some (.int x2), some (.int x3), none], [.int s0], σ)).trans rfl
set_option maxRecDepth 20000 in
theorem q_86_6221 (G : Nat × (Nat → Int32)) (d : Nat) (x2 : Int32) (x3 : Int32) (σ : aH) : Lq G d M_86 (120, [some (.ref 33), none, some (.int x2), some (.int x3), none], [], σ) = Lq G d M_86 (121, [some (.ref 33), none, some (.int x2), some (.int x3), none], [.ref 33], σ) :=
  (aUn_eq (tkd G.1 G.2) tmi (aRun (tkd G.1 G.2) tmi tmt d) M_86 [] 1 (120, [some (.ref 33), none, some (.int x2), some (.int x3), none], [], σ)).trans rfl
set_option maxRecDepth 20000 in
theorem q_86_6222 (G : Nat × (Nat → Int32)) (d : Nat) (x2 : Int32) (x3 : Int32) (σ : aH) : Lq G d M_86 (121, [some (.ref 33), none, some (.int x2), some (.int x3), none], [.ref 33], σ) = aCV (Rn G d 88 [.ref 33] σ) fun σ1 => Lq G d M_86 (124, [some (.ref 33), none, some (.int x2), some (.int x3), none], [], σ1) :=
  (aUn_eq (tkd G.1 G.2) tmi (aRun (tkd G.1 G.2) tmi tmt d) M_86 [] 1 (121, [some (.ref 33), none, some (.int x2), some (.int x3), none], [.ref 33], σ)).trans rfl
set_option maxRecDepth 20000 in
theorem q_86_6223 (G : Nat × (Nat → Int32)) (d : Nat) (x2 : Int32) (x3 : Int32) (σ : aH) : Lq G d M_86 (124, [some (.ref 33), none, some (.int x2), some (.int x3), none], [], σ) = some (.inl none, σ) :=
  (aUn_eq (tkd G.1 G.2) tmi (aRun (tkd G.1 G.2) tmi tmt d) M_86 [] 1 (124, [some (.ref 33), none, some (.int x2), some (.int x3), none], [], σ)).trans rfl
set_option maxRecDepth 20000 in
theorem q_86_6224 (G : Nat × (Nat → Int32)) (d : Nat) (x2 : Int32) (x3 : Int32) (σ : aH) : Lq G d M_86 (8, [some (.ref 33), none, some (.int x2), some (.int x3), none], [], σ) = Lq G d M_86 (9, [some (.ref 33), none, some (.int x2), some (.int x3), none], [.ref 33], σ) :=
  (aUn_eq (tkd G.1 G.2) tmi (aRun (tkd G.1 G.2) tmi tmt d) M_86 [] 1 (8, [some (.ref 33), none, some (.int x2), some (.int x3), none], [], σ)).trans rfl
set_option maxRecDepth 20000 in
theorem q_86_6225 (G : Nat × (Nat → Int32)) (d : Nat) (x2 : Int32) (x3 : Int32) (σ : aH) : Lq G d M_86 (9, [some (.ref 33), none, some (.int x2), some (.int x3), none], [.ref 33], σ) = aCI (Rn G d 67 [.ref 33] σ) fun v2 σ1 => Lq G d M_86 (12, [some (.ref 33), none, some (.int x2), some (.int x3), none], [.int v2], σ1) :=
  (aUn_eq (tkd G.1 G.2) tmi (aRun (tkd G.1 G.2) tmi tmt d) M_86 [] 1 (9, [some (.ref 33), none, some (.int x2), some (.int x3), none], [.ref 33], σ)).trans rfl
set_option maxRecDepth 20000 in
theorem q_86_6226 (G : Nat × (Nat → Int32)) (d : Nat) (x2 : Int32) (x3 : Int32) (s0 : Int32) (σ : aH) : Lq G d M_86 (12, [some (.ref 33), none, some (.int x2), some (.int x3), none], [.int s0], σ) = if s0 = 0 then Lq G d M_86 (120, [some (.ref 33), none, some (.int x2), some (.int x3), none], [], σ) else Lq G d M_86 (15, [some (.ref 33), none, some (.int x2), some (.int x3), none], [], σ) :=
  (aUn_eq (tkd G.1 G.2) tmi (aRun (tkd G.1 G.2) tmi tmt d) M_86 [] 1 (12, [some (.ref 33), none, some (.int x2), some (.int x3), none], [.int s0], σ)).trans rfl
set_option maxRecDepth 20000 in
theorem q_86_6227 (G : Nat × (Nat → Int32)) (d : Nat) (x2 : Int32) (x3 : Int32) (σ : aH) : Lq G d M_86 (15, [some (.ref 33), none, some (.int x2), some (.int x3), none], [], σ) = Lq G d M_86 (18, [some (.ref 33), none, some (.int x2), none, some (.int (0 : Int32))], [], σ) :=
  (aUn_eq (tkd G.1 G.2) tmi (aRun (tkd G.1 G.2) tmi tmt d) M_86 [] 2 (15, [some (.ref 33), none, some (.int x2), some (.int x3), none], [], σ)).trans rfl
set_option maxRecDepth 20000 in
theorem q_86_6228 (G : Nat × (Nat → Int32)) (d : Nat) (x2 : Int32) (x4 : Int32) (σ : aH) : Lq G d M_86 (18, [some (.ref 33), none, some (.int x2), none, some (.int x4)], [], σ) = Lq G d M_86 (19, [some (.ref 33), none, some (.int x2), none, some (.int x4)], [.ref 33], σ) :=
  (aUn_eq (tkd G.1 G.2) tmi (aRun (tkd G.1 G.2) tmi tmt d) M_86 [] 1 (18, [some (.ref 33), none, some (.int x2), none, some (.int x4)], [], σ)).trans rfl
set_option maxRecDepth 20000 in
theorem q_86_6229 (G : Nat × (Nat → Int32)) (d : Nat) (x2 : Int32) (x4 : Int32) (σ : aH) : Lq G d M_86 (19, [some (.ref 33), none, some (.int x2), none, some (.int x4)], [.ref 33], σ) = aCI (Rn G d 67 [.ref 33] σ) fun v2 σ1 => Lq G d M_86 (22, [some (.ref 33), none, some (.int x2), none, some (.int x4)], [.int v2], σ1) :=
  (aUn_eq (tkd G.1 G.2) tmi (aRun (tkd G.1 G.2) tmi tmt d) M_86 [] 1 (19, [some (.ref 33), none, some (.int x2), none, some (.int x4)], [.ref 33], σ)).trans rfl
set_option maxRecDepth 20000 in
theorem q_86_6230 (G : Nat × (Nat → Int32)) (d : Nat) (x2 : Int32) (x4 : Int32) (s0 : Int32) (σ : aH) : Lq G d M_86 (22, [some (.ref 33), none, some (.int x2), none, some (.int x4)], [.int s0], σ) = if s0 = 0 then Lq G d M_86 (75, [some (.ref 33), none, some (.int x2), none, some (.int x4)], [], σ) else Lq G d M_86 (25, [some (.ref 33), none, some (.int x2), none, some (.int x4)], [], σ) :=
  (aUn_eq (tkd G.1 G.2) tmi (aRun (tkd G.1 G.2) tmi tmt d) M_86 [] 1 (22, [some (.ref 33), none, some (.int x2), none, some (.int x4)], [.int s0], σ)).trans rfl
set_option maxRecDepth 20000 in
theorem q_86_6231 (G : Nat × (Nat → Int32)) (d : Nat) (x2 : Int32) (x4 : Int32) (σ : aH) : Lq G d M_86 (75, [some (.ref 33), none, some (.int x2), none, some (.int x4)], [], σ) = Lq G d M_86 (76, [some (.ref 33), none, some (.int x2), none, some (.int x4)], [.ref 33], σ) :=
  (aUn_eq (tkd G.1 G.2) tmi (aRun (tkd G.1 G.2) tmi tmt d) M_86 [] 1 (75, [some (.ref 33), none, some (.int x2), none, some (.int x4)], [], σ)).trans rfl
set_option maxRecDepth 20000 in
theorem q_86_6232 (G : Nat × (Nat → Int32)) (d : Nat) (x2 : Int32) (x4 : Int32) (σ : aH) : Lq G d M_86 (76, [some (.ref 33), none, some (.int x2), none, some (.int x4)], [.ref 33], σ) = aCI (Rn G d 67 [.ref 33] σ) fun v2 σ1 => Lq G d M_86 (79, [some (.ref 33), none, some (.int x2), none, some (.int x4)], [.int v2], σ1) :=
  (aUn_eq (tkd G.1 G.2) tmi (aRun (tkd G.1 G.2) tmi tmt d) M_86 [] 1 (76, [some (.ref 33), none, some (.int x2), none, some (.int x4)], [.ref 33], σ)).trans rfl
set_option maxRecDepth 20000 in
theorem q_86_6233 (G : Nat × (Nat → Int32)) (d : Nat) (x2 : Int32) (x4 : Int32) (s0 : Int32) (σ : aH) : Lq G d M_86 (79, [some (.ref 33), none, some (.int x2), none, some (.int x4)], [.int s0], σ) = if s0 = 0 then Lq G d M_86 (95, [some (.ref 33), none, some (.int x2), none, some (.int x4)], [], σ) else Lq G d M_86 (82, [some (.ref 33), none, some (.int x2), none, some (.int x4)], [], σ) :=
  (aUn_eq (tkd G.1 G.2) tmi (aRun (tkd G.1 G.2) tmi tmt d) M_86 [] 1 (79, [some (.ref 33), none, some (.int x2), none, some (.int x4)], [.int s0], σ)).trans rfl
set_option maxRecDepth 20000 in
theorem q_86_6234 (G : Nat × (Nat → Int32)) (d : Nat) (x2 : Int32) (x4 : Int32) (σ : aH) : Lq G d M_86 (95, [some (.ref 33), none, some (.int x2), none, some (.int x4)], [], σ) = Lq G d M_86 (98, [some (.ref 33), none, some (.int x2), some (.int (0 : Int32)), some (.int x4)], [.int (0 : Int32)], σ) :=
  (aUn_eq (tkd G.1 G.2) tmi (aRun (tkd G.1 G.2) tmi tmt d) M_86 [] 3 (95, [some (.ref 33), none, some (.int x2), none, some (.int x4)], [], σ)).trans rfl
set_option maxRecDepth 20000 in
theorem q_86_6235 (G : Nat × (Nat → Int32)) (d : Nat) (x2 : Int32) (x3 : Int32) (x4 : Int32) (s0 : Int32) (σ : aH) : Lq G d M_86 (98, [some (.ref 33), none, some (.int x2), some (.int x3), some (.int x4)], [.int s0], σ) = if s0 = 0 then Lq G d M_86 (117, [some (.ref 33), none, some (.int x2), some (.int x3), some (.int x4)], [], σ) else Lq G d M_86 (101, [some (.ref 33), none, some (.int x2), some (.int x3), some (.int x4)], [], σ) :=
  (aUn_eq (tkd G.1 G.2) tmi (aRun (tkd G.1 G.2) tmi tmt d) M_86 [] 1 (98, [some (.ref 33), none, some (.int x2), some (.int x3), some (.int x4)], [.int s0], σ)).trans rfl
set_option maxRecDepth 20000 in
theorem q_86_6236 (G : Nat × (Nat → Int32)) (d : Nat) (x2 : Int32) (x3 : Int32) (x4 : Int32) (σ : aH) : Lq G d M_86 (117, [some (.ref 33), none, some (.int x2), some (.int x3), some (.int x4)], [], σ) = Lq G d M_86 (4, [some (.ref 33), none, some (.int x2), some (.int x3), none], [], σ) :=
  (aUn_eq (tkd G.1 G.2) tmi (aRun (tkd G.1 G.2) tmi tmt d) M_86 [] 1 (117, [some (.ref 33), none, some (.int x2), some (.int x3), some (.int x4)], [], σ)).trans rfl
set_option maxRecDepth 20000 in
theorem q_86_6237 (G : Nat × (Nat → Int32)) (d : Nat) (x2 : Int32) (x3 : Int32) (x4 : Int32) (σ : aH) : Lq G d M_86 (101, [some (.ref 33), none, some (.int x2), some (.int x3), some (.int x4)], [], σ) = Lq G d M_86 (104, [some (.ref 33), none, some (.int x2), some (.int x3), some (.int x4)], [.int (12 : Int32), .ref 33], σ) :=
  (aUn_eq (tkd G.1 G.2) tmi (aRun (tkd G.1 G.2) tmi tmt d) M_86 [] 2 (101, [some (.ref 33), none, some (.int x2), some (.int x3), some (.int x4)], [], σ)).trans rfl
set_option maxRecDepth 20000 in
theorem q_86_6238 (G : Nat × (Nat → Int32)) (d : Nat) (x2 : Int32) (x3 : Int32) (x4 : Int32) (s0 : Int32) (σ : aH) : Lq G d M_86 (104, [some (.ref 33), none, some (.int x2), some (.int x3), some (.int x4)], [.int s0, .ref 33], σ) = aCV (Rn G d 87 [.ref 33, .int s0] σ) fun σ1 => Lq G d M_86 (107, [some (.ref 33), none, some (.int x2), some (.int x3), some (.int x4)], [], σ1) :=
  (aUn_eq (tkd G.1 G.2) tmi (aRun (tkd G.1 G.2) tmi tmt d) M_86 [] 1 (104, [some (.ref 33), none, some (.int x2), some (.int x3), some (.int x4)], [.int s0, .ref 33], σ)).trans rfl
set_option maxRecDepth 20000 in
theorem q_86_6239 (G : Nat × (Nat → Int32)) (d : Nat) (x2 : Int32) (x3 : Int32) (x4 : Int32) (σ : aH) : Lq G d M_86 (107, [some (.ref 33), none, some (.int x2), some (.int x3), some (.int x4)], [], σ) = Lq G d M_86 (108, [some (.ref 33), none, some (.int x2), some (.int x3), some (.int x4)], [.ref 33], σ) :=
  (aUn_eq (tkd G.1 G.2) tmi (aRun (tkd G.1 G.2) tmi tmt d) M_86 [] 1 (107, [some (.ref 33), none, some (.int x2), some (.int x3), some (.int x4)], [], σ)).trans rfl
set_option maxRecDepth 20000 in
theorem q_86_6240 (G : Nat × (Nat → Int32)) (d : Nat) (x2 : Int32) (x3 : Int32) (x4 : Int32) (σ : aH) : Lq G d M_86 (108, [some (.ref 33), none, some (.int x2), some (.int x3), some (.int x4)], [.ref 33], σ) = aCV (Rn G d 63 [.ref 33] σ) fun σ1 => Lq G d M_86 (111, [some (.ref 33), none, some (.int x2), some (.int x3), some (.int x4)], [], σ1) :=
  (aUn_eq (tkd G.1 G.2) tmi (aRun (tkd G.1 G.2) tmi tmt d) M_86 [] 1 (108, [some (.ref 33), none, some (.int x2), some (.int x3), some (.int x4)], [.ref 33], σ)).trans rfl
set_option maxRecDepth 20000 in
theorem q_86_6241 (G : Nat × (Nat → Int32)) (d : Nat) (x2 : Int32) (x3 : Int32) (x4 : Int32) (σ : aH) : Lq G d M_86 (111, [some (.ref 33), none, some (.int x2), some (.int x3), some (.int x4)], [], σ) = Lq G d M_86 (112, [some (.ref 33), none, some (.int x2), some (.int x3), some (.int x4)], [.ref 33], σ) :=
  (aUn_eq (tkd G.1 G.2) tmi (aRun (tkd G.1 G.2) tmi tmt d) M_86 [] 1 (111, [some (.ref 33), none, some (.int x2), some (.int x3), some (.int x4)], [], σ)).trans rfl
set_option maxRecDepth 20000 in
theorem q_86_6242 (G : Nat × (Nat → Int32)) (d : Nat) (x2 : Int32) (x3 : Int32) (x4 : Int32) (σ : aH) : Lq G d M_86 (112, [some (.ref 33), none, some (.int x2), some (.int x3), some (.int x4)], [.ref 33], σ) = aCV (Rn G d 84 [.ref 33] σ) fun σ1 => Lq G d M_86 (115, [some (.ref 33), none, some (.int x2), some (.int x3), some (.int x4)], [], σ1) :=
  (aUn_eq (tkd G.1 G.2) tmi (aRun (tkd G.1 G.2) tmi tmt d) M_86 [] 1 (112, [some (.ref 33), none, some (.int x2), some (.int x3), some (.int x4)], [.ref 33], σ)).trans rfl
set_option maxRecDepth 20000 in
theorem q_86_6243 (G : Nat × (Nat → Int32)) (d : Nat) (x2 : Int32) (x3 : Int32) (x4 : Int32) (σ : aH) : Lq G d M_86 (115, [some (.ref 33), none, some (.int x2), some (.int x3), some (.int x4)], [], σ) = Lq G d M_86 (4, [some (.ref 33), none, some (.int (1 : Int32)), some (.int x3), none], [], σ) :=
  (aUn_eq (tkd G.1 G.2) tmi (aRun (tkd G.1 G.2) tmi tmt d) M_86 [] 3 (115, [some (.ref 33), none, some (.int x2), some (.int x3), some (.int x4)], [], σ)).trans rfl
set_option maxRecDepth 20000 in
theorem q_86_6244 (G : Nat × (Nat → Int32)) (d : Nat) (x2 : Int32) (x4 : Int32) (σ : aH) : Lq G d M_86 (82, [some (.ref 33), none, some (.int x2), none, some (.int x4)], [], σ) = Lq G d M_86 (85, [some (.ref 33), none, some (.int x2), none, some (.int x4)], [.int (40 : Int32), .ref 33], σ) :=
  (aUn_eq (tkd G.1 G.2) tmi (aRun (tkd G.1 G.2) tmi tmt d) M_86 [] 2 (82, [some (.ref 33), none, some (.int x2), none, some (.int x4)], [], σ)).trans rfl
set_option maxRecDepth 20000 in
theorem q_86_6245 (G : Nat × (Nat → Int32)) (d : Nat) (x2 : Int32) (x4 : Int32) (s0 : Int32) (σ : aH) : Lq G d M_86 (85, [some (.ref 33), none, some (.int x2), none, some (.int x4)], [.int s0, .ref 33], σ) = aCI (Rn G d 85 [.ref 33, .int s0] σ) fun v2 σ1 => Lq G d M_86 (88, [some (.ref 33), none, some (.int x2), none, some (.int x4)], [.int v2], σ1) :=
  (aUn_eq (tkd G.1 G.2) tmi (aRun (tkd G.1 G.2) tmi tmt d) M_86 [] 1 (85, [some (.ref 33), none, some (.int x2), none, some (.int x4)], [.int s0, .ref 33], σ)).trans rfl
set_option maxRecDepth 20000 in
theorem q_86_6246 (G : Nat × (Nat → Int32)) (d : Nat) (x2 : Int32) (x4 : Int32) (s0 : Int32) (σ : aH) : Lq G d M_86 (88, [some (.ref 33), none, some (.int x2), none, some (.int x4)], [.int s0], σ) = if s0 = 0 then Lq G d M_86 (95, [some (.ref 33), none, some (.int x2), none, some (.int x4)], [], σ) else Lq G d M_86 (91, [some (.ref 33), none, some (.int x2), none, some (.int x4)], [], σ) :=
  (aUn_eq (tkd G.1 G.2) tmi (aRun (tkd G.1 G.2) tmi tmt d) M_86 [] 1 (88, [some (.ref 33), none, some (.int x2), none, some (.int x4)], [.int s0], σ)).trans rfl
set_option maxRecDepth 20000 in
theorem q_86_6247 (G : Nat × (Nat → Int32)) (d : Nat) (x2 : Int32) (x4 : Int32) (σ : aH) : Lq G d M_86 (91, [some (.ref 33), none, some (.int x2), none, some (.int x4)], [], σ) = Lq G d M_86 (98, [some (.ref 33), none, some (.int x2), some (.int (1 : Int32)), some (.int x4)], [.int (1 : Int32)], σ) :=
  (aUn_eq (tkd G.1 G.2) tmi (aRun (tkd G.1 G.2) tmi tmt d) M_86 [] 4 (91, [some (.ref 33), none, some (.int x2), none, some (.int x4)], [], σ)).trans rfl
set_option maxRecDepth 20000 in
theorem q_86_6248 (G : Nat × (Nat → Int32)) (d : Nat) (x2 : Int32) (x4 : Int32) (σ : aH) : Lq G d M_86 (25, [some (.ref 33), none, some (.int x2), none, some (.int x4)], [], σ) = Lq G d M_86 (26, [some (.ref 33), none, some (.int x2), none, some (.int x4)], [.int x2], σ) :=
  (aUn_eq (tkd G.1 G.2) tmi (aRun (tkd G.1 G.2) tmi tmt d) M_86 [] 1 (25, [some (.ref 33), none, some (.int x2), none, some (.int x4)], [], σ)).trans rfl
set_option maxRecDepth 20000 in
theorem q_86_6249 (G : Nat × (Nat → Int32)) (d : Nat) (x2 : Int32) (x4 : Int32) (s0 : Int32) (σ : aH) : Lq G d M_86 (26, [some (.ref 33), none, some (.int x2), none, some (.int x4)], [.int s0], σ) = if s0 = 0 then Lq G d M_86 (75, [some (.ref 33), none, some (.int x2), none, some (.int x4)], [], σ) else Lq G d M_86 (29, [some (.ref 33), none, some (.int x2), none, some (.int x4)], [], σ) :=
  (aUn_eq (tkd G.1 G.2) tmi (aRun (tkd G.1 G.2) tmi tmt d) M_86 [] 1 (26, [some (.ref 33), none, some (.int x2), none, some (.int x4)], [.int s0], σ)).trans rfl
set_option maxRecDepth 20000 in
theorem q_86_6250 (G : Nat × (Nat → Int32)) (d : Nat) (x2 : Int32) (x4 : Int32) (σ : aH) : Lq G d M_86 (29, [some (.ref 33), none, some (.int x2), none, some (.int x4)], [], σ) = Lq G d M_86 (30, [some (.ref 33), none, some (.int x2), none, some (.int x4)], [.ref 33], σ) :=
  (aUn_eq (tkd G.1 G.2) tmi (aRun (tkd G.1 G.2) tmi tmt d) M_86 [] 1 (29, [some (.ref 33), none, some (.int x2), none, some (.int x4)], [], σ)).trans rfl
set_option maxRecDepth 20000 in
theorem q_86_6251 (G : Nat × (Nat → Int32)) (d : Nat) (x2 : Int32) (x4 : Int32) (σ : aH) : Lq G d M_86 (30, [some (.ref 33), none, some (.int x2), none, some (.int x4)], [.ref 33], σ) = aCI (Rn G d 69 [.ref 33] σ) fun v2 σ1 => Lq G d M_86 (33, [some (.ref 33), none, some (.int x2), none, some (.int x4)], [.int v2], σ1) :=
  (aUn_eq (tkd G.1 G.2) tmi (aRun (tkd G.1 G.2) tmi tmt d) M_86 [] 1 (30, [some (.ref 33), none, some (.int x2), none, some (.int x4)], [.ref 33], σ)).trans rfl
set_option maxRecDepth 20000 in
theorem q_86_6252 (G : Nat × (Nat → Int32)) (d : Nat) (x2 : Int32) (x4 : Int32) (s0 : Int32) (σ : aH) : Lq G d M_86 (33, [some (.ref 33), none, some (.int x2), none, some (.int x4)], [.int s0], σ) = Lq G d M_86 (35, [some (.ref 33), none, some (.int x2), none, some (.int x4)], [.int (35 : Int32), .int s0], σ) :=
  (aUn_eq (tkd G.1 G.2) tmi (aRun (tkd G.1 G.2) tmi tmt d) M_86 [] 1 (33, [some (.ref 33), none, some (.int x2), none, some (.int x4)], [.int s0], σ)).trans rfl
set_option maxRecDepth 20000 in
theorem q_86_6253 (G : Nat × (Nat → Int32)) (d : Nat) (x2 : Int32) (x4 : Int32) (s0 : Int32) (s1 : Int32) (σ : aH) : Lq G d M_86 (35, [some (.ref 33), none, some (.int x2), none, some (.int x4)], [.int s0, .int s1], σ) = if s1 = s0 then Lq G d M_86 (38, [some (.ref 33), none, some (.int x2), none, some (.int x4)], [], σ) else Lq G d M_86 (75, [some (.ref 33), none, some (.int x2), none, some (.int x4)], [], σ) :=
  (aUn_eq (tkd G.1 G.2) tmi (aRun (tkd G.1 G.2) tmi tmt d) M_86 [] 1 (35, [some (.ref 33), none, some (.int x2), none, some (.int x4)], [.int s0, .int s1], σ)).trans rfl
set_option maxRecDepth 20000 in
theorem q_86_6254 (G : Nat × (Nat → Int32)) (d : Nat) (x2 : Int32) (x4 : Int32) (σ : aH) : Lq G d M_86 (38, [some (.ref 33), none, some (.int x2), none, some (.int x4)], [], σ) = Lq G d M_86 (42, [some (.ref 33), none, some (.int x2), none, some (.int x4)], [.int (6 : Int32), .int x4], σ) :=
  (aUn_eq (tkd G.1 G.2) tmi (aRun (tkd G.1 G.2) tmi tmt d) M_86 [] 2 (38, [some (.ref 33), none, some (.int x2), none, some (.int x4)], [], σ)).trans rfl
set_option maxRecDepth 20000 in
theorem q_86_6255 (G : Nat × (Nat → Int32)) (d : Nat) (x2 : Int32) (x4 : Int32) (s0 : Int32) (s1 : Int32) (σ : aH) : Lq G d M_86 (42, [some (.ref 33), none, some (.int x2), none, some (.int x4)], [.int s0, .int s1], σ) = if s1 = s0 then Lq G d M_86 (45, [some (.ref 33), none, some (.int x2), none, some (.int x4)], [], σ) else Lq G d M_86 (50, [some (.ref 33), none, some (.int x2), none, some (.int x4)], [], σ) :=
  (aUn_eq (tkd G.1 G.2) tmi (aRun (tkd G.1 G.2) tmi tmt d) M_86 [] 1 (42, [some (.ref 33), none, some (.int x2), none, some (.int x4)], [.int s0, .int s1], σ)).trans rfl
set_option maxRecDepth 20000 in
theorem q_86_6256 (G : Nat × (Nat → Int32)) (d : Nat) (x2 : Int32) (x4 : Int32) (σ : aH) : Lq G d M_86 (45, [some (.ref 33), none, some (.int x2), none, some (.int x4)], [], σ) = Lq G d M_86 (47, [some (.ref 33), none, some (.int x2), none, some (.int x4)], [.int (2 : Int32), .ref 33], σ) :=
  (aUn_eq (tkd G.1 G.2) tmi (aRun (tkd G.1 G.2) tmi tmt d) M_86 [] 2 (45, [some (.ref 33), none, some (.int x2), none, some (.int x4)], [], σ)).trans rfl
set_option maxRecDepth 20000 in
theorem q_86_6257 (G : Nat × (Nat → Int32)) (d : Nat) (x2 : Int32) (x4 : Int32) (s0 : Int32) (σ : aH) : Lq G d M_86 (47, [some (.ref 33), none, some (.int x2), none, some (.int x4)], [.int s0, .ref 33], σ) = aCV (Rn G d 73 [.ref 33, .int s0] σ) fun σ1 => Lq G d M_86 (50, [some (.ref 33), none, some (.int x2), none, some (.int x4)], [], σ1) :=
  (aUn_eq (tkd G.1 G.2) tmi (aRun (tkd G.1 G.2) tmi tmt d) M_86 [] 1 (47, [some (.ref 33), none, some (.int x2), none, some (.int x4)], [.int s0, .ref 33], σ)).trans rfl
set_option maxRecDepth 20000 in
theorem q_86_6258 (G : Nat × (Nat → Int32)) (d : Nat) (x2 : Int32) (x4 : Int32) (σ : aH) : Lq G d M_86 (50, [some (.ref 33), none, some (.int x2), none, some (.int x4)], [], σ) = Lq G d M_86 (54, [some (.ref 33), none, some (.int x2), none, some (.int (x4 + (1 : Int32)))], [.ref 33], σ) :=
  (aUn_eq (tkd G.1 G.2) tmi (aRun (tkd G.1 G.2) tmi tmt d) M_86 [] 2 (50, [some (.ref 33), none, some (.int x2), none, some (.int x4)], [], σ)).trans rfl
set_option maxRecDepth 20000 in
theorem q_86_6259 (G : Nat × (Nat → Int32)) (d : Nat) (x2 : Int32) (x4 : Int32) (σ : aH) : Lq G d M_86 (54, [some (.ref 33), none, some (.int x2), none, some (.int x4)], [.ref 33], σ) = aCI (Rn G d 67 [.ref 33] σ) fun v2 σ1 => Lq G d M_86 (57, [some (.ref 33), none, some (.int x2), none, some (.int x4)], [.int v2], σ1) :=
  (aUn_eq (tkd G.1 G.2) tmi (aRun (tkd G.1 G.2) tmi tmt d) M_86 [] 1 (54, [some (.ref 33), none, some (.int x2), none, some (.int x4)], [.ref 33], σ)).trans rfl
set_option maxRecDepth 20000 in
theorem q_86_6260 (G : Nat × (Nat → Int32)) (d : Nat) (x2 : Int32) (x4 : Int32) (s0 : Int32) (σ : aH) : Lq G d M_86 (57, [some (.ref 33), none, some (.int x2), none, some (.int x4)], [.int s0], σ) = if s0 = 0 then Lq G d M_86 (60, [some (.ref 33), none, some (.int x2), none, some (.int x4)], [], σ) else Lq G d M_86 (63, [some (.ref 33), none, some (.int x2), none, some (.int x4)], [], σ) :=
  (aUn_eq (tkd G.1 G.2) tmi (aRun (tkd G.1 G.2) tmi tmt d) M_86 [] 1 (57, [some (.ref 33), none, some (.int x2), none, some (.int x4)], [.int s0], σ)).trans rfl
set_option maxRecDepth 20000 in
theorem q_86_6261 (G : Nat × (Nat → Int32)) (d : Nat) (x2 : Int32) (x4 : Int32) (σ : aH) : Lq G d M_86 (60, [some (.ref 33), none, some (.int x2), none, some (.int x4)], [], σ) = Lq G d M_86 (18, [some (.ref 33), none, some (.int x2), none, some (.int x4)], [], σ) :=
  (aUn_eq (tkd G.1 G.2) tmi (aRun (tkd G.1 G.2) tmi tmt d) M_86 [] 1 (60, [some (.ref 33), none, some (.int x2), none, some (.int x4)], [], σ)).trans rfl
set_option maxRecDepth 20000 in
theorem q_86_6262 (G : Nat × (Nat → Int32)) (d : Nat) (x2 : Int32) (x4 : Int32) (σ : aH) : Lq G d M_86 (63, [some (.ref 33), none, some (.int x2), none, some (.int x4)], [], σ) = Lq G d M_86 (65, [some (.ref 33), none, some (.int x2), none, some (.int x4)], [.int (3 : Int32), .ref 33], σ) :=
  (aUn_eq (tkd G.1 G.2) tmi (aRun (tkd G.1 G.2) tmi tmt d) M_86 [] 2 (63, [some (.ref 33), none, some (.int x2), none, some (.int x4)], [], σ)).trans rfl
set_option maxRecDepth 20000 in
theorem q_86_6263 (G : Nat × (Nat → Int32)) (d : Nat) (x2 : Int32) (x4 : Int32) (s0 : Int32) (σ : aH) : Lq G d M_86 (65, [some (.ref 33), none, some (.int x2), none, some (.int x4)], [.int s0, .ref 33], σ) = aCV (Rn G d 87 [.ref 33, .int s0] σ) fun σ1 => Lq G d M_86 (68, [some (.ref 33), none, some (.int x2), none, some (.int x4)], [], σ1) :=
  (aUn_eq (tkd G.1 G.2) tmi (aRun (tkd G.1 G.2) tmi tmt d) M_86 [] 1 (65, [some (.ref 33), none, some (.int x2), none, some (.int x4)], [.int s0, .ref 33], σ)).trans rfl
set_option maxRecDepth 20000 in
theorem q_86_6264 (G : Nat × (Nat → Int32)) (d : Nat) (x2 : Int32) (x4 : Int32) (σ : aH) : Lq G d M_86 (68, [some (.ref 33), none, some (.int x2), none, some (.int x4)], [], σ) = Lq G d M_86 (69, [some (.ref 33), none, some (.int x2), none, some (.int x4)], [.ref 33], σ) :=
  (aUn_eq (tkd G.1 G.2) tmi (aRun (tkd G.1 G.2) tmi tmt d) M_86 [] 1 (68, [some (.ref 33), none, some (.int x2), none, some (.int x4)], [], σ)).trans rfl
set_option maxRecDepth 20000 in
theorem q_86_6265 (G : Nat × (Nat → Int32)) (d : Nat) (x2 : Int32) (x4 : Int32) (σ : aH) : Lq G d M_86 (69, [some (.ref 33), none, some (.int x2), none, some (.int x4)], [.ref 33], σ) = aCV (Rn G d 63 [.ref 33] σ) fun σ1 => Lq G d M_86 (72, [some (.ref 33), none, some (.int x2), none, some (.int x4)], [], σ1) :=
  (aUn_eq (tkd G.1 G.2) tmi (aRun (tkd G.1 G.2) tmi tmt d) M_86 [] 1 (69, [some (.ref 33), none, some (.int x2), none, some (.int x4)], [.ref 33], σ)).trans rfl
set_option maxRecDepth 20000 in
theorem q_86_6266 (G : Nat × (Nat → Int32)) (d : Nat) (x2 : Int32) (x4 : Int32) (σ : aH) : Lq G d M_86 (72, [some (.ref 33), none, some (.int x2), none, some (.int x4)], [], σ) = Lq G d M_86 (18, [some (.ref 33), none, some (.int x2), none, some (.int x4)], [], σ) :=
  (aUn_eq (tkd G.1 G.2) tmi (aRun (tkd G.1 G.2) tmi tmt d) M_86 [] 1 (72, [some (.ref 33), none, some (.int x2), none, some (.int x4)], [], σ)).trans rfl
set_option maxRecDepth 20000 in
theorem q_90_6267 (G : Nat × (Nat → Int32)) (d : Nat) (x1 : Int32) (σ : aH) : Lq G d M_90 (0, [some (.ref 33), some (.int x1)], [], σ) = Lq G d M_90 (4, [some (.ref 33), some (.int x1)], [.int (σ.1 33 32)], σ) :=
  (aUn_eq (tkd G.1 G.2) tmi (aRun (tkd G.1 G.2) tmi tmt d) M_90 [] 2 (0, [some (.ref 33), some (.int x1)], [], σ)).trans rfl
set_option maxRecDepth 20000 in
theorem q_90_6268 (G : Nat × (Nat → Int32)) (d : Nat) (x1 : Int32) (s0 : Int32) (σ : aH) : Lq G d M_90 (4, [some (.ref 33), some (.int x1)], [.int s0], σ) = if s0 ≤ 0 then Lq G d M_90 (67, [some (.ref 33), some (.int x1)], [], σ) else Lq G d M_90 (7, [some (.ref 33), some (.int x1)], [], σ) :=
  (aUn_eq (tkd G.1 G.2) tmi (aRun (tkd G.1 G.2) tmi tmt d) M_90 [] 1 (4, [some (.ref 33), some (.int x1)], [.int s0], σ)).trans rfl
set_option maxRecDepth 20000 in
theorem q_90_6269 (G : Nat × (Nat → Int32)) (d : Nat) (x1 : Int32) (σ : aH) : Lq G d M_90 (67, [some (.ref 33), some (.int x1)], [], σ) = some (.inl none, σ) :=
  (aUn_eq (tkd G.1 G.2) tmi (aRun (tkd G.1 G.2) tmi tmt d) M_90 [] 1 (67, [some (.ref 33), some (.int x1)], [], σ)).trans rfl
set_option maxRecDepth 20000 in
theorem q_90_6270 (G : Nat × (Nat → Int32)) (d : Nat) (x1 : Int32) (σ : aH) : Lq G d M_90 (7, [some (.ref 33), some (.int x1)], [], σ) = Lq G d M_90 (17, [some (.ref 33), some (.int x1)], [.int ((σ.1 33 32) - (1 : Int32)), .ref 47], σ) :=
  (aUn_eq (tkd G.1 G.2) tmi (aRun (tkd G.1 G.2) tmi tmt d) M_90 [] 6 (7, [some (.ref 33), some (.int x1)], [], σ)).trans rfl
set_option maxRecDepth 20000 in
theorem q_90_6271 (G : Nat × (Nat → Int32)) (d : Nat) (x1 : Int32) (s0 : Int32) (σ : aH) : Lq G d M_90 (17, [some (.ref 33), some (.int x1)], [.int s0, .ref 47], σ) = aIx (s0) 720 fun j1 => Lq G d M_90 (18, [some (.ref 33), some (.int x1)], [.int (σ.1 47 j1)], σ) :=
  (aUn_eq (tkd G.1 G.2) tmi (aRun (tkd G.1 G.2) tmi tmt d) M_90 [] 1 (17, [some (.ref 33), some (.int x1)], [.int s0, .ref 47], σ)).trans rfl
set_option maxRecDepth 20000 in
theorem q_90_6272 (G : Nat × (Nat → Int32)) (d : Nat) (x1 : Int32) (s0 : Int32) (σ : aH) : Lq G d M_90 (18, [some (.ref 33), some (.int x1)], [.int s0], σ) = Lq G d M_90 (20, [some (.ref 33), some (.int x1)], [.int (12 : Int32), .int s0], σ) :=
  (aUn_eq (tkd G.1 G.2) tmi (aRun (tkd G.1 G.2) tmi tmt d) M_90 [] 1 (18, [some (.ref 33), some (.int x1)], [.int s0], σ)).trans rfl
set_option maxRecDepth 20000 in
theorem q_90_6273 (G : Nat × (Nat → Int32)) (d : Nat) (x1 : Int32) (s0 : Int32) (s1 : Int32) (σ : aH) : Lq G d M_90 (20, [some (.ref 33), some (.int x1)], [.int s0, .int s1], σ) = if s1 = s0 then Lq G d M_90 (67, [some (.ref 33), some (.int x1)], [], σ) else Lq G d M_90 (23, [some (.ref 33), some (.int x1)], [], σ) :=
  (aUn_eq (tkd G.1 G.2) tmi (aRun (tkd G.1 G.2) tmi tmt d) M_90 [] 1 (20, [some (.ref 33), some (.int x1)], [.int s0, .int s1], σ)).trans rfl
set_option maxRecDepth 20000 in
theorem q_90_6274 (G : Nat × (Nat → Int32)) (d : Nat) (x1 : Int32) (σ : aH) : Lq G d M_90 (23, [some (.ref 33), some (.int x1)], [], σ) = Lq G d M_90 (33, [some (.ref 33), some (.int x1)], [.int ((σ.1 33 32) - (1 : Int32)), .ref 47], σ) :=
  (aUn_eq (tkd G.1 G.2) tmi (aRun (tkd G.1 G.2) tmi tmt d) M_90 [] 6 (23, [some (.ref 33), some (.int x1)], [], σ)).trans rfl
set_option maxRecDepth 20000 in
theorem q_90_6275 (G : Nat × (Nat → Int32)) (d : Nat) (x1 : Int32) (s0 : Int32) (σ : aH) : Lq G d M_90 (33, [some (.ref 33), some (.int x1)], [.int s0, .ref 47], σ) = aIx (s0) 720 fun j1 => Lq G d M_90 (34, [some (.ref 33), some (.int x1)], [.int (σ.1 47 j1)], σ) :=
  (aUn_eq (tkd G.1 G.2) tmi (aRun (tkd G.1 G.2) tmi tmt d) M_90 [] 1 (33, [some (.ref 33), some (.int x1)], [.int s0, .ref 47], σ)).trans rfl
set_option maxRecDepth 20000 in
theorem q_90_6276 (G : Nat × (Nat → Int32)) (d : Nat) (x1 : Int32) (s0 : Int32) (σ : aH) : Lq G d M_90 (34, [some (.ref 33), some (.int x1)], [.int s0], σ) = aCI (Rn G d 91 [.int s0] σ) fun v2 σ1 => Lq G d M_90 (37, [some (.ref 33), some (.int x1)], [.int v2], σ1) :=
  (aUn_eq (tkd G.1 G.2) tmi (aRun (tkd G.1 G.2) tmi tmt d) M_90 [] 1 (34, [some (.ref 33), some (.int x1)], [.int s0], σ)).trans rfl
set_option maxRecDepth 20000 in
theorem q_90_6277 (G : Nat × (Nat → Int32)) (d : Nat) (x1 : Int32) (s0 : Int32) (σ : aH) : Lq G d M_90 (37, [some (.ref 33), some (.int x1)], [.int s0], σ) = Lq G d M_90 (38, [some (.ref 33), some (.int x1)], [.int x1, .int s0], σ) :=
  (aUn_eq (tkd G.1 G.2) tmi (aRun (tkd G.1 G.2) tmi tmt d) M_90 [] 1 (37, [some (.ref 33), some (.int x1)], [.int s0], σ)).trans rfl
set_option maxRecDepth 20000 in
theorem q_90_6278 (G : Nat × (Nat → Int32)) (d : Nat) (x1 : Int32) (s0 : Int32) (s1 : Int32) (σ : aH) : Lq G d M_90 (38, [some (.ref 33), some (.int x1)], [.int s0, .int s1], σ) = if s1 < s0 then Lq G d M_90 (67, [some (.ref 33), some (.int x1)], [], σ) else Lq G d M_90 (41, [some (.ref 33), some (.int x1)], [], σ) :=
  (aUn_eq (tkd G.1 G.2) tmi (aRun (tkd G.1 G.2) tmi tmt d) M_90 [] 1 (38, [some (.ref 33), some (.int x1)], [.int s0, .int s1], σ)).trans rfl
set_option maxRecDepth 20000 in
theorem q_90_6279 (G : Nat × (Nat → Int32)) (d : Nat) (x1 : Int32) (σ : aH) : Lq G d M_90 (41, [some (.ref 33), some (.int x1)], [], σ) = Lq G d M_90 (60, [some (.ref 33), some (.int x1)], [.int ((σ.1 33 32) - (1 : Int32)), .ref 47, .ref 33], (aSI σ 33 32 ((σ.1 33 32) - (1 : Int32)))) :=
  (aUn_eq (tkd G.1 G.2) tmi (aRun (tkd G.1 G.2) tmi tmt d) M_90 [] 11 (41, [some (.ref 33), some (.int x1)], [], σ)).trans rfl
set_option maxRecDepth 20000 in
theorem q_90_6280 (G : Nat × (Nat → Int32)) (d : Nat) (x1 : Int32) (s0 : Int32) (σ : aH) : Lq G d M_90 (60, [some (.ref 33), some (.int x1)], [.int s0, .ref 47, .ref 33], σ) = aIx (s0) 720 fun j1 => Lq G d M_90 (61, [some (.ref 33), some (.int x1)], [.int (σ.1 47 j1), .ref 33], σ) :=
  (aUn_eq (tkd G.1 G.2) tmi (aRun (tkd G.1 G.2) tmi tmt d) M_90 [] 1 (60, [some (.ref 33), some (.int x1)], [.int s0, .ref 47, .ref 33], σ)).trans rfl
set_option maxRecDepth 20000 in
theorem q_90_6281 (G : Nat × (Nat → Int32)) (d : Nat) (x1 : Int32) (s0 : Int32) (σ : aH) : Lq G d M_90 (61, [some (.ref 33), some (.int x1)], [.int s0, .ref 33], σ) = aCV (Rn G d 89 [.ref 33, .int s0] σ) fun σ1 => Lq G d M_90 (64, [some (.ref 33), some (.int x1)], [], σ1) :=
  (aUn_eq (tkd G.1 G.2) tmi (aRun (tkd G.1 G.2) tmi tmt d) M_90 [] 1 (61, [some (.ref 33), some (.int x1)], [.int s0, .ref 33], σ)).trans rfl
set_option maxRecDepth 20000 in
theorem q_90_6282 (G : Nat × (Nat → Int32)) (d : Nat) (x1 : Int32) (σ : aH) : Lq G d M_90 (64, [some (.ref 33), some (.int x1)], [], σ) = Lq G d M_90 (0, [some (.ref 33), some (.int x1)], [], σ) :=
  (aUn_eq (tkd G.1 G.2) tmi (aRun (tkd G.1 G.2) tmi tmt d) M_90 [] 1 (64, [some (.ref 33), some (.int x1)], [], σ)).trans rfl
set_option maxRecDepth 20000 in
theorem q_89_6283 (G : Nat × (Nat → Int32)) (d : Nat) (x1 : Int32) (σ : aH) : Lq G d M_89 (0, [some (.ref 33), some (.int x1)], [], σ) = Lq G d M_89 (9, [some (.ref 33), some (.int x1)], [.int x1, .int (σ.1 33 31), .ref 46], σ) :=
  (aUn_eq (tkd G.1 G.2) tmi (aRun (tkd G.1 G.2) tmi tmt d) M_89 [] 5 (0, [some (.ref 33), some (.int x1)], [], σ)).trans rfl
set_option maxRecDepth 20000 in
theorem q_89_6284 (G : Nat × (Nat → Int32)) (d : Nat) (x1 : Int32) (s0 : Int32) (s1 : Int32) (σ : aH) : Lq G d M_89 (9, [some (.ref 33), some (.int x1)], [.int s0, .int s1, .ref 46], σ) = aIx (s1) 1200 fun j1 => Lq G d M_89 (10, [some (.ref 33), some (.int x1)], [], (aSI σ 46 j1 s0)) :=
  (aUn_eq (tkd G.1 G.2) tmi (aRun (tkd G.1 G.2) tmi tmt d) M_89 [] 1 (9, [some (.ref 33), some (.int x1)], [.int s0, .int s1, .ref 46], σ)).trans rfl
set_option maxRecDepth 20000 in
theorem q_89_6285 (G : Nat × (Nat → Int32)) (d : Nat) (x1 : Int32) (σ : aH) : Lq G d M_89 (10, [some (.ref 33), some (.int x1)], [], σ) = Lq G d M_89 (20, [some (.ref 33), some (.int x1)], [], (aSI σ 33 31 ((σ.1 33 31) + (1 : Int32)))) :=
  (aUn_eq (tkd G.1 G.2) tmi (aRun (tkd G.1 G.2) tmi tmt d) M_89 [] 6 (10, [some (.ref 33), some (.int x1)], [], σ)).trans rfl
set_option maxRecDepth 20000 in
theorem q_89_6286 (G : Nat × (Nat → Int32)) (d : Nat) (x1 : Int32) (σ : aH) : Lq G d M_89 (20, [some (.ref 33), some (.int x1)], [], σ) = some (.inl none, σ) :=
  (aUn_eq (tkd G.1 G.2) tmi (aRun (tkd G.1 G.2) tmi tmt d) M_89 [] 1 (20, [some (.ref 33), some (.int x1)], [], σ)).trans rfl
set_option maxRecDepth 20000 in
theorem q_87_6287 (G : Nat × (Nat → Int32)) (d : Nat) (x1 : Int32) (σ : aH) : Lq G d M_87 (0, [some (.ref 33), some (.int x1)], [], σ) = Lq G d M_87 (9, [some (.ref 33), some (.int x1)], [.int x1, .int (σ.1 33 32), .ref 47], σ) :=
  (aUn_eq (tkd G.1 G.2) tmi (aRun (tkd G.1 G.2) tmi tmt d) M_87 [] 5 (0, [some (.ref 33), some (.int x1)], [], σ)).trans rfl
set_option maxRecDepth 20000 in
theorem q_87_6288 (G : Nat × (Nat → Int32)) (d : Nat) (x1 : Int32) (s0 : Int32) (s1 : Int32) (σ : aH) : Lq G d M_87 (9, [some (.ref 33), some (.int x1)], [.int s0, .int s1, .ref 47], σ) = aIx (s1) 720 fun j1 => Lq G d M_87 (10, [some (.ref 33), some (.int x1)], [], (aSI σ 47 j1 s0)) :=
  (aUn_eq (tkd G.1 G.2) tmi (aRun (tkd G.1 G.2) tmi tmt d) M_87 [] 1 (9, [some (.ref 33), some (.int x1)], [.int s0, .int s1, .ref 47], σ)).trans rfl
set_option maxRecDepth 20000 in
theorem q_87_6289 (G : Nat × (Nat → Int32)) (d : Nat) (x1 : Int32) (σ : aH) : Lq G d M_87 (10, [some (.ref 33), some (.int x1)], [], σ) = Lq G d M_87 (20, [some (.ref 33), some (.int x1)], [], (aSI σ 33 32 ((σ.1 33 32) + (1 : Int32)))) :=
  (aUn_eq (tkd G.1 G.2) tmi (aRun (tkd G.1 G.2) tmi tmt d) M_87 [] 6 (10, [some (.ref 33), some (.int x1)], [], σ)).trans rfl
set_option maxRecDepth 20000 in
theorem q_87_6290 (G : Nat × (Nat → Int32)) (d : Nat) (x1 : Int32) (σ : aH) : Lq G d M_87 (20, [some (.ref 33), some (.int x1)], [], σ) = some (.inl none, σ) :=
  (aUn_eq (tkd G.1 G.2) tmi (aRun (tkd G.1 G.2) tmi tmt d) M_87 [] 1 (20, [some (.ref 33), some (.int x1)], [], σ)).trans rfl
set_option maxRecDepth 20000 in
theorem q_125_6291 (G : Nat × (Nat → Int32)) (d : Nat) (x1 : Int32) (σ : aH) : Lq G d M_125 (0, [some (.ref 3), some (.int x1)], [], σ) = Lq G d M_125 (1, [some (.ref 3), some (.int x1)], [.int x1], σ) :=
  (aUn_eq (tkd G.1 G.2) tmi (aRun (tkd G.1 G.2) tmi tmt d) M_125 [] 1 (0, [some (.ref 3), some (.int x1)], [], σ)).trans rfl
set_option maxRecDepth 20000 in
theorem q_125_6292 (G : Nat × (Nat → Int32)) (d : Nat) (x1 : Int32) (s0 : Int32) (σ : aH) : Lq G d M_125 (1, [some (.ref 3), some (.int x1)], [.int s0], σ) = if 0 < s0 then Lq G d M_125 (8, [some (.ref 3), some (.int x1)], [], σ) else Lq G d M_125 (4, [some (.ref 3), some (.int x1)], [], σ) :=
  (aUn_eq (tkd G.1 G.2) tmi (aRun (tkd G.1 G.2) tmi tmt d) M_125 [] 1 (1, [some (.ref 3), some (.int x1)], [.int s0], σ)).trans rfl
set_option maxRecDepth 20000 in
theorem q_125_6293 (G : Nat × (Nat → Int32)) (d : Nat) (x1 : Int32) (σ : aH) : Lq G d M_125 (8, [some (.ref 3), some (.int x1)], [], σ) = Lq G d M_125 (14, [some (.ref 3), some (.int x1)], [.int (0 : Int32), .int (x1 - (1 : Int32)), .int (4 : Int32), .ref 3], σ) :=
  (aUn_eq (tkd G.1 G.2) tmi (aRun (tkd G.1 G.2) tmi tmt d) M_125 [] 6 (8, [some (.ref 3), some (.int x1)], [], σ)).trans rfl
set_option maxRecDepth 20000 in
theorem q_125_6294 (G : Nat × (Nat → Int32)) (d : Nat) (x1 : Int32) (s0 : Int32) (s1 : Int32) (s2 : Int32) (σ : aH) : Lq G d M_125 (14, [some (.ref 3), some (.int x1)], [.int s0, .int s1, .int s2, .ref 3], σ) = aCI (Rn G d 119 [.ref 3, .int s2, .int s1, .int s0] σ) fun v2 σ1 => Lq G d M_125 (17, [some (.ref 3), some (.int x1)], [.int v2], σ1) :=
  (aUn_eq (tkd G.1 G.2) tmi (aRun (tkd G.1 G.2) tmi tmt d) M_125 [] 1 (14, [some (.ref 3), some (.int x1)], [.int s0, .int s1, .int s2, .ref 3], σ)).trans rfl
set_option maxRecDepth 20000 in
theorem q_125_6295 (G : Nat × (Nat → Int32)) (d : Nat) (x1 : Int32) (s0 : Int32) (σ : aH) : Lq G d M_125 (17, [some (.ref 3), some (.int x1)], [.int s0], σ) = some (.inl (some (.int s0)), σ) :=
  (aUn_eq (tkd G.1 G.2) tmi (aRun (tkd G.1 G.2) tmi tmt d) M_125 [] 1 (17, [some (.ref 3), some (.int x1)], [.int s0], σ)).trans rfl
set_option maxRecDepth 20000 in
theorem q_125_6296 (G : Nat × (Nat → Int32)) (d : Nat) (x1 : Int32) (σ : aH) : Lq G d M_125 (4, [some (.ref 3), some (.int x1)], [], σ) = Lq G d M_125 (17, [some (.ref 3), some (.int x1)], [.int (0 : Int32)], σ) :=
  (aUn_eq (tkd G.1 G.2) tmi (aRun (tkd G.1 G.2) tmi tmt d) M_125 [] 2 (4, [some (.ref 3), some (.int x1)], [], σ)).trans rfl
set_option maxRecDepth 20000 in
theorem q_126_6297 (G : Nat × (Nat → Int32)) (d : Nat) (x1 : Int32) (σ : aH) : Lq G d M_126 (0, [some (.ref 3), some (.int x1)], [], σ) = Lq G d M_126 (5, [some (.ref 3), some (.int x1)], [.int x1, .ref 6], σ) :=
  (aUn_eq (tkd G.1 G.2) tmi (aRun (tkd G.1 G.2) tmi tmt d) M_126 [] 3 (0, [some (.ref 3), some (.int x1)], [], σ)).trans rfl
set_option maxRecDepth 20000 in
theorem q_126_6298 (G : Nat × (Nat → Int32)) (d : Nat) (x1 : Int32) (s0 : Int32) (σ : aH) : Lq G d M_126 (5, [some (.ref 3), some (.int x1)], [.int s0, .ref 6], σ) = aCI (Rn G d 32 [.ref 6, .int s0] σ) fun v2 σ1 => Lq G d M_126 (8, [some (.ref 3), some (.int x1)], [.int v2], σ1) :=
  (aUn_eq (tkd G.1 G.2) tmi (aRun (tkd G.1 G.2) tmi tmt d) M_126 [] 1 (5, [some (.ref 3), some (.int x1)], [.int s0, .ref 6], σ)).trans rfl
set_option maxRecDepth 20000 in
theorem q_126_6299 (G : Nat × (Nat → Int32)) (d : Nat) (x1 : Int32) (s0 : Int32) (σ : aH) : Lq G d M_126 (8, [some (.ref 3), some (.int x1)], [.int s0], σ) = some (.inl (some (.int s0)), σ) :=
  (aUn_eq (tkd G.1 G.2) tmi (aRun (tkd G.1 G.2) tmi tmt d) M_126 [] 1 (8, [some (.ref 3), some (.int x1)], [.int s0], σ)).trans rfl
set_option maxRecDepth 20000 in
theorem q_127_6300 (G : Nat × (Nat → Int32)) (d : Nat) (x0 : Int32) (x1 : Int32) (x2 : Int32) (σ : aH) : Lq G d M_127 (0, [some (.int x0), some (.int x1), some (.int x2)], [], σ) = Lq G d M_127 (1, [some (.int x0), some (.int x1), some (.int x2)], [.int x0], σ) :=
  (aUn_eq (tkd G.1 G.2) tmi (aRun (tkd G.1 G.2) tmi tmt d) M_127 [] 1 (0, [some (.int x0), some (.int x1), some (.int x2)], [], σ)).trans rfl
set_option maxRecDepth 20000 in
theorem q_127_6301 (G : Nat × (Nat → Int32)) (d : Nat) (x0 : Int32) (x1 : Int32) (x2 : Int32) (s0 : Int32) (σ : aH) : Lq G d M_127 (1, [some (.int x0), some (.int x1), some (.int x2)], [.int s0], σ) = if s0 = (1 : Int32) then Lq G d M_127 (48, [some (.int x0), some (.int x1), some (.int x2)], [], σ) else if s0 = (2 : Int32) then Lq G d M_127 (62, [some (.int x0), some (.int x1), some (.int x2)], [], σ) else if s0 = (3 : Int32) then Lq G d M_127 (110, [some (.int x0), some (.int x1), some (.int x2)], [], σ) else if s0 = (4 : Int32) then Lq G d M_127 (76, [some (.int x0), some (.int x1), some (.int x2)], [], σ) else if s0 = (5 : Int32) then Lq G d M_127 (87, [some (.int x0), some (.int x1), some (.int x2)], [], σ) else if s0 = (6 : Int32) then Lq G d M_127 (98, [some (.int x0), some (.int x1), some (.int x2)], [], σ) else if s0 = (7 : Int32) then Lq G d M_127 (102, [some (.int x0), some (.int x1), some (.int x2)], [], σ) else if s0 = (8 : Int32) then Lq G d M_127 (106, [some (.int x0), some (.int x1), some (.int x2)], [], σ) else Lq G d M_127 (110, [some (.int x0), some (.int x1), some (.int x2)], [], σ) :=
  (aUn_eq (tkd G.1 G.2) tmi (aRun (tkd G.1 G.2) tmi tmt d) M_127 [] 1 (1, [some (.int x0), some (.int x1), some (.int x2)], [.int s0], σ)).trans rfl
set_option maxRecDepth 20000 in
theorem q_127_6302 (G : Nat × (Nat → Int32)) (d : Nat) (x0 : Int32) (x1 : Int32) (x2 : Int32) (σ : aH) : Lq G d M_127 (48, [some (.int x0), some (.int x1), some (.int x2)], [], σ) = Lq G d M_127 (49, [some (.int x0), some (.int x1), some (.int x2)], [.int x1], σ) :=
  (aUn_eq (tkd G.1 G.2) tmi (aRun (tkd G.1 G.2) tmi tmt d) M_127 [] 1 (48, [some (.int x0), some (.int x1), some (.int x2)], [], σ)).trans rfl
set_option maxRecDepth 20000 in
theorem q_127_6303 (G : Nat × (Nat → Int32)) (d : Nat) (x0 : Int32) (x1 : Int32) (x2 : Int32) (s0 : Int32) (σ : aH) : Lq G d M_127 (49, [some (.int x0), some (.int x1), some (.int x2)], [.int s0], σ) = if s0 = 0 then Lq G d M_127 (52, [some (.int x0), some (.int x1), some (.int x2)], [], σ) else Lq G d M_127 (56, [some (.int x0), some (.int x1), some (.int x2)], [], σ) :=
  (aUn_eq (tkd G.1 G.2) tmi (aRun (tkd G.1 G.2) tmi tmt d) M_127 [] 1 (49, [some (.int x0), some (.int x1), some (.int x2)], [.int s0], σ)).trans rfl
set_option maxRecDepth 20000 in
theorem q_127_6304 (G : Nat × (Nat → Int32)) (d : Nat) (x0 : Int32) (x1 : Int32) (x2 : Int32) (σ : aH) : Lq G d M_127 (52, [some (.int x0), some (.int x1), some (.int x2)], [], σ) = Lq G d M_127 (53, [some (.int x0), some (.int x1), some (.int x2)], [.int x2], σ) :=
  (aUn_eq (tkd G.1 G.2) tmi (aRun (tkd G.1 G.2) tmi tmt d) M_127 [] 1 (52, [some (.int x0), some (.int x1), some (.int x2)], [], σ)).trans rfl
set_option maxRecDepth 20000 in
theorem q_127_6305 (G : Nat × (Nat → Int32)) (d : Nat) (x0 : Int32) (x1 : Int32) (x2 : Int32) (s0 : Int32) (σ : aH) : Lq G d M_127 (53, [some (.int x0), some (.int x1), some (.int x2)], [.int s0], σ) = if s0 = 0 then Lq G d M_127 (60, [some (.int x0), some (.int x1), some (.int x2)], [], σ) else Lq G d M_127 (56, [some (.int x0), some (.int x1), some (.int x2)], [], σ) :=
  (aUn_eq (tkd G.1 G.2) tmi (aRun (tkd G.1 G.2) tmi tmt d) M_127 [] 1 (53, [some (.int x0), some (.int x1), some (.int x2)], [.int s0], σ)).trans rfl
set_option maxRecDepth 20000 in
theorem q_127_6306 (G : Nat × (Nat → Int32)) (d : Nat) (x0 : Int32) (x1 : Int32) (x2 : Int32) (σ : aH) : Lq G d M_127 (60, [some (.int x0), some (.int x1), some (.int x2)], [], σ) = Lq G d M_127 (61, [some (.int x0), some (.int x1), some (.int x2)], [.int (0 : Int32)], σ) :=
  (aUn_eq (tkd G.1 G.2) tmi (aRun (tkd G.1 G.2) tmi tmt d) M_127 [] 1 (60, [some (.int x0), some (.int x1), some (.int x2)], [], σ)).trans rfl
set_option maxRecDepth 20000 in
theorem q_127_6307 (G : Nat × (Nat → Int32)) (d : Nat) (x0 : Int32) (x1 : Int32) (x2 : Int32) (s0 : Int32) (σ : aH) : Lq G d M_127 (61, [some (.int x0), some (.int x1), some (.int x2)], [.int s0], σ) = some (.inl (some (.int s0)), σ) :=
  (aUn_eq (tkd G.1 G.2) tmi (aRun (tkd G.1 G.2) tmi tmt d) M_127 [] 1 (61, [some (.int x0), some (.int x1), some (.int x2)], [.int s0], σ)).trans rfl
set_option maxRecDepth 20000 in
theorem q_127_6308 (G : Nat × (Nat → Int32)) (d : Nat) (x0 : Int32) (x1 : Int32) (x2 : Int32) (σ : aH) : Lq G d M_127 (56, [some (.int x0), some (.int x1), some (.int x2)], [], σ) = Lq G d M_127 (61, [some (.int x0), some (.int x1), some (.int x2)], [.int (1 : Int32)], σ) :=
  (aUn_eq (tkd G.1 G.2) tmi (aRun (tkd G.1 G.2) tmi tmt d) M_127 [] 2 (56, [some (.int x0), some (.int x1), some (.int x2)], [], σ)).trans rfl
set_option maxRecDepth 20000 in
theorem q_127_6309 (G : Nat × (Nat → Int32)) (d : Nat) (x0 : Int32) (x1 : Int32) (x2 : Int32) (σ : aH) : Lq G d M_127 (62, [some (.int x0), some (.int x1), some (.int x2)], [], σ) = Lq G d M_127 (63, [some (.int x0), some (.int x1), some (.int x2)], [.int x1], σ) :=
  (aUn_eq (tkd G.1 G.2) tmi (aRun (tkd G.1 G.2) tmi tmt d) M_127 [] 1 (62, [some (.int x0), some (.int x1), some (.int x2)], [], σ)).trans rfl
set_option maxRecDepth 20000 in
theorem q_127_6310 (G : Nat × (Nat → Int32)) (d : Nat) (x0 : Int32) (x1 : Int32) (x2 : Int32) (s0 : Int32) (σ : aH) : Lq G d M_127 (63, [some (.int x0), some (.int x1), some (.int x2)], [.int s0], σ) = if s0 = 0 then Lq G d M_127 (74, [some (.int x0), some (.int x1), some (.int x2)], [], σ) else Lq G d M_127 (66, [some (.int x0), some (.int x1), some (.int x2)], [], σ) :=
  (aUn_eq (tkd G.1 G.2) tmi (aRun (tkd G.1 G.2) tmi tmt d) M_127 [] 1 (63, [some (.int x0), some (.int x1), some (.int x2)], [.int s0], σ)).trans rfl
set_option maxRecDepth 20000 in
theorem q_127_6311 (G : Nat × (Nat → Int32)) (d : Nat) (x0 : Int32) (x1 : Int32) (x2 : Int32) (σ : aH) : Lq G d M_127 (74, [some (.int x0), some (.int x1), some (.int x2)], [], σ) = Lq G d M_127 (75, [some (.int x0), some (.int x1), some (.int x2)], [.int (0 : Int32)], σ) :=
  (aUn_eq (tkd G.1 G.2) tmi (aRun (tkd G.1 G.2) tmi tmt d) M_127 [] 1 (74, [some (.int x0), some (.int x1), some (.int x2)], [], σ)).trans rfl
set_option maxRecDepth 20000 in
theorem q_127_6312 (G : Nat × (Nat → Int32)) (d : Nat) (x0 : Int32) (x1 : Int32) (x2 : Int32) (s0 : Int32) (σ : aH) : Lq G d M_127 (75, [some (.int x0), some (.int x1), some (.int x2)], [.int s0], σ) = some (.inl (some (.int s0)), σ) :=
  (aUn_eq (tkd G.1 G.2) tmi (aRun (tkd G.1 G.2) tmi tmt d) M_127 [] 1 (75, [some (.int x0), some (.int x1), some (.int x2)], [.int s0], σ)).trans rfl
set_option maxRecDepth 20000 in
theorem q_127_6313 (G : Nat × (Nat → Int32)) (d : Nat) (x0 : Int32) (x1 : Int32) (x2 : Int32) (σ : aH) : Lq G d M_127 (66, [some (.int x0), some (.int x1), some (.int x2)], [], σ) = Lq G d M_127 (67, [some (.int x0), some (.int x1), some (.int x2)], [.int x2], σ) :=
  (aUn_eq (tkd G.1 G.2) tmi (aRun (tkd G.1 G.2) tmi tmt d) M_127 [] 1 (66, [some (.int x0), some (.int x1), some (.int x2)], [], σ)).trans rfl
set_option maxRecDepth 20000 in
theorem q_127_6314 (G : Nat × (Nat → Int32)) (d : Nat) (x0 : Int32) (x1 : Int32) (x2 : Int32) (s0 : Int32) (σ : aH) : Lq G d M_127 (67, [some (.int x0), some (.int x1), some (.int x2)], [.int s0], σ) = if s0 = 0 then Lq G d M_127 (74, [some (.int x0), some (.int x1), some (.int x2)], [], σ) else Lq G d M_127 (70, [some (.int x0), some (.int x1), some (.int x2)], [], σ) :=
  (aUn_eq (tkd G.1 G.2) tmi (aRun (tkd G.1 G.2) tmi tmt d) M_127 [] 1 (67, [some (.int x0), some (.int x1), some (.int x2)], [.int s0], σ)).trans rfl
set_option maxRecDepth 20000 in
theorem q_127_6315 (G : Nat × (Nat → Int32)) (d : Nat) (x0 : Int32) (x1 : Int32) (x2 : Int32) (σ : aH) : Lq G d M_127 (70, [some (.int x0), some (.int x1), some (.int x2)], [], σ) = Lq G d M_127 (75, [some (.int x0), some (.int x1), some (.int x2)], [.int (1 : Int32)], σ) :=
  (aUn_eq (tkd G.1 G.2) tmi (aRun (tkd G.1 G.2) tmi tmt d) M_127 [] 2 (70, [some (.int x0), some (.int x1), some (.int x2)], [], σ)).trans rfl
set_option maxRecDepth 20000 in
theorem q_127_6316 (G : Nat × (Nat → Int32)) (d : Nat) (x0 : Int32) (x1 : Int32) (x2 : Int32) (σ : aH) : Lq G d M_127 (110, [some (.int x0), some (.int x1), some (.int x2)], [], σ) = Lq G d M_127 (111, [some (.int x0), some (.int x1), some (.int x2)], [.int x2], σ) :=
  (aUn_eq (tkd G.1 G.2) tmi (aRun (tkd G.1 G.2) tmi tmt d) M_127 [] 1 (110, [some (.int x0), some (.int x1), some (.int x2)], [], σ)).trans rfl
set_option maxRecDepth 20000 in
theorem q_127_6317 (G : Nat × (Nat → Int32)) (d : Nat) (x0 : Int32) (x1 : Int32) (x2 : Int32) (s0 : Int32) (σ : aH) : Lq G d M_127 (111, [some (.int x0), some (.int x1), some (.int x2)], [.int s0], σ) = if s0 = 0 then Lq G d M_127 (114, [some (.int x0), some (.int x1), some (.int x2)], [], σ) else Lq G d M_127 (118, [some (.int x0), some (.int x1), some (.int x2)], [], σ) :=
  (aUn_eq (tkd G.1 G.2) tmi (aRun (tkd G.1 G.2) tmi tmt d) M_127 [] 1 (111, [some (.int x0), some (.int x1), some (.int x2)], [.int s0], σ)).trans rfl
set_option maxRecDepth 20000 in
theorem q_127_6318 (G : Nat × (Nat → Int32)) (d : Nat) (x0 : Int32) (x1 : Int32) (x2 : Int32) (σ : aH) : Lq G d M_127 (114, [some (.int x0), some (.int x1), some (.int x2)], [], σ) = Lq G d M_127 (121, [some (.int x0), some (.int x1), some (.int x2)], [.int (0 : Int32)], σ) :=
  (aUn_eq (tkd G.1 G.2) tmi (aRun (tkd G.1 G.2) tmi tmt d) M_127 [] 2 (114, [some (.int x0), some (.int x1), some (.int x2)], [], σ)).trans rfl
set_option maxRecDepth 20000 in
theorem q_127_6319 (G : Nat × (Nat → Int32)) (d : Nat) (x0 : Int32) (x1 : Int32) (x2 : Int32) (s0 : Int32) (σ : aH) : Lq G d M_127 (121, [some (.int x0), some (.int x1), some (.int x2)], [.int s0], σ) = some (.inl (some (.int s0)), σ) :=
  (aUn_eq (tkd G.1 G.2) tmi (aRun (tkd G.1 G.2) tmi tmt d) M_127 [] 1 (121, [some (.int x0), some (.int x1), some (.int x2)], [.int s0], σ)).trans rfl
set_option maxRecDepth 20000 in
theorem q_127_6320 (G : Nat × (Nat → Int32)) (d : Nat) (x0 : Int32) (x1 : Int32) (x2 : Int32) (σ : aH) : Lq G d M_127 (118, [some (.int x0), some (.int x1), some (.int x2)], [], σ) = Lq G d M_127 (120, [some (.int x0), some (.int x1), some (.int x2)], [.int x2, .int x1], σ) :=
  (aUn_eq (tkd G.1 G.2) tmi (aRun (tkd G.1 G.2) tmi tmt d) M_127 [] 2 (118, [some (.int x0), some (.int x1), some (.int x2)], [], σ)).trans rfl
set_option maxRecDepth 20000 in
theorem q_127_6321 (G : Nat × (Nat → Int32)) (d : Nat) (x0 : Int32) (x1 : Int32) (x2 : Int32) (s0 : Int32) (s1 : Int32) (σ : aH) : Lq G d M_127 (120, [some (.int x0), some (.int x1), some (.int x2)], [.int s0, .int s1], σ) = aNz (s0) (Lq G d M_127 (121, [some (.int x0), some (.int x1), some (.int x2)], [.int (s1 / s0)], σ)) :=
  (aUn_eq (tkd G.1 G.2) tmi (aRun (tkd G.1 G.2) tmi tmt d) M_127 [] 1 (120, [some (.int x0), some (.int x1), some (.int x2)], [.int s0, .int s1], σ)).trans rfl
set_option maxRecDepth 20000 in
theorem q_127_6322 (G : Nat × (Nat → Int32)) (d : Nat) (x0 : Int32) (x1 : Int32) (x2 : Int32) (σ : aH) : Lq G d M_127 (76, [some (.int x0), some (.int x1), some (.int x2)], [], σ) = Lq G d M_127 (78, [some (.int x0), some (.int x1), some (.int x2)], [.int x2, .int x1], σ) :=
  (aUn_eq (tkd G.1 G.2) tmi (aRun (tkd G.1 G.2) tmi tmt d) M_127 [] 2 (76, [some (.int x0), some (.int x1), some (.int x2)], [], σ)).trans rfl
set_option maxRecDepth 20000 in
theorem q_127_6323 (G : Nat × (Nat → Int32)) (d : Nat) (x0 : Int32) (x1 : Int32) (x2 : Int32) (s0 : Int32) (s1 : Int32) (σ : aH) : Lq G d M_127 (78, [some (.int x0), some (.int x1), some (.int x2)], [.int s0, .int s1], σ) = if s0 ≤ s1 then Lq G d M_127 (85, [some (.int x0), some (.int x1), some (.int x2)], [], σ) else Lq G d M_127 (81, [some (.int x0), some (.int x1), some (.int x2)], [], σ) :=
  (aUn_eq (tkd G.1 G.2) tmi (aRun (tkd G.1 G.2) tmi tmt d) M_127 [] 1 (78, [some (.int x0), some (.int x1), some (.int x2)], [.int s0, .int s1], σ)).trans rfl
set_option maxRecDepth 20000 in
theorem q_127_6324 (G : Nat × (Nat → Int32)) (d : Nat) (x0 : Int32) (x1 : Int32) (x2 : Int32) (σ : aH) : Lq G d M_127 (85, [some (.int x0), some (.int x1), some (.int x2)], [], σ) = Lq G d M_127 (86, [some (.int x0), some (.int x1), some (.int x2)], [.int (0 : Int32)], σ) :=
  (aUn_eq (tkd G.1 G.2) tmi (aRun (tkd G.1 G.2) tmi tmt d) M_127 [] 1 (85, [some (.int x0), some (.int x1), some (.int x2)], [], σ)).trans rfl
