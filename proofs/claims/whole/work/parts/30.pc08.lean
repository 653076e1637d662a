/-! ===== the methods in pieces, as equations (by wip/gen/emit_eqs2.py) ===== -/
set_option maxRecDepth 20000 in
theorem q_63_2063 (G : Nat × (Nat → Int32)) (d : Nat) (s0 : Int32) (σ : aH) : Lq G d M_63 (73, [some (.ref 33), none], [.int s0, .ref 33], σ) = aCI (Rn G d 64 [.ref 33, .int s0] σ) fun v2 σ1 => Lq G d M_63 (76, [some (.ref 33), none], [.int v2], σ1) :=
  (aUn_eq (tkd G.1 G.2) tmi (aRun (tkd G.1 G.2) tmi tmt d) M_63 [] 1 (73, [some (.ref 33), none], [.int s0, .ref 33], σ)).trans rfl
set_option maxRecDepth 20000 in
theorem q_63_2064 (G : Nat × (Nat → Int32)) (d : Nat) (s0 : Int32) (σ : aH) : Lq G d M_63 (76, [some (.ref 33), none], [.int s0], σ) = Lq G d M_63 (90, [some (.ref 33), some (.int s0)], [.int (σ.1 33 18), .int (σ.1 33 19)], (aSI σ 33 24 s0)) :=
  (aUn_eq (tkd G.1 G.2) tmi (aRun (tkd G.1 G.2) tmi tmt d) M_63 [] 8 (76, [some (.ref 33), none], [.int s0], σ)).trans rfl
set_option maxRecDepth 20000 in
theorem q_63_2065 (G : Nat × (Nat → Int32)) (d : Nat) (x1 : Int32) (s0 : Int32) (s1 : Int32) (σ : aH) : Lq G d M_63 (90, [some (.ref 33), some (.int x1)], [.int s0, .int s1], σ) = if s1 < s0 then Lq G d M_63 (101, [some (.ref 33), some (.int x1)], [], σ) else Lq G d M_63 (93, [some (.ref 33), some (.int x1)], [], σ) :=
  (aUn_eq (tkd G.1 G.2) tmi (aRun (tkd G.1 G.2) tmi tmt d) M_63 [] 1 (90, [some (.ref 33), some (.int x1)], [.int s0, .int s1], σ)).trans rfl
set_option maxRecDepth 20000 in
theorem q_63_2066 (G : Nat × (Nat → Int32)) (d : Nat) (x1 : Int32) (σ : aH) : Lq G d M_63 (101, [some (.ref 33), some (.int x1)], [], σ) = Lq G d M_63 (102, [some (.ref 33), some (.int x1)], [.int x1], σ) :=
  (aUn_eq (tkd G.1 G.2) tmi (aRun (tkd G.1 G.2) tmi tmt d) M_63 [] 1 (101, [some (.ref 33), some (.int x1)], [], σ)).trans rfl
set_option maxRecDepth 20000 in
theorem q_63_2067 (G : Nat × (Nat → Int32)) (d : Nat) (x1 : Int32) (s0 : Int32) (σ : aH) : Lq G d M_63 (102, [some (.ref 33), some (.int x1)], [.int s0], σ) = aCI (Rn G d 65 [.int s0] σ) fun v2 σ1 => Lq G d M_63 (105, [some (.ref 33), some (.int x1)], [.int v2], σ1) :=
  (aUn_eq (tkd G.1 G.2) tmi (aRun (tkd G.1 G.2) tmi tmt d) M_63 [] 1 (102, [some (.ref 33), some (.int x1)], [.int s0], σ)).trans rfl
set_option maxRecDepth 20000 in
theorem q_63_2068 (G : Nat × (Nat → Int32)) (d : Nat) (x1 : Int32) (s0 : Int32) (σ : aH) : Lq G d M_63 (105, [some (.ref 33), some (.int x1)], [.int s0], σ) = if s0 = 0 then Lq G d M_63 (180, [some (.ref 33), some (.int x1)], [], σ) else Lq G d M_63 (108, [some (.ref 33), none], [], σ) :=
  (aUn_eq (tkd G.1 G.2) tmi (aRun (tkd G.1 G.2) tmi tmt d) M_63 [] 1 (105, [some (.ref 33), some (.int x1)], [.int s0], σ)).trans rfl
set_option maxRecDepth 20000 in
theorem q_63_2069 (G : Nat × (Nat → Int32)) (d : Nat) (x1 : Int32) (σ : aH) : Lq G d M_63 (180, [some (.ref 33), some (.int x1)], [], σ) = Lq G d M_63 (181, [some (.ref 33), some (.int x1)], [.int x1], σ) :=
  (aUn_eq (tkd G.1 G.2) tmi (aRun (tkd G.1 G.2) tmi tmt d) M_63 [] 1 (180, [some (.ref 33), some (.int x1)], [], σ)).trans rfl
set_option maxRecDepth 20000 in
theorem q_63_2070 (G : Nat × (Nat → Int32)) (d : Nat) (x1 : Int32) (s0 : Int32) (σ : aH) : Lq G d M_63 (181, [some (.ref 33), some (.int x1)], [.int s0], σ) = aCI (Rn G d 66 [.int s0] σ) fun v2 σ1 => Lq G d M_63 (184, [some (.ref 33), some (.int x1)], [.int v2], σ1) :=
  (aUn_eq (tkd G.1 G.2) tmi (aRun (tkd G.1 G.2) tmi tmt d) M_63 [] 1 (181, [some (.ref 33), some (.int x1)], [.int s0], σ)).trans rfl
set_option maxRecDepth 20000 in
theorem q_63_2071 (G : Nat × (Nat → Int32)) (d : Nat) (x1 : Int32) (s0 : Int32) (σ : aH) : Lq G d M_63 (184, [some (.ref 33), some (.int x1)], [.int s0], σ) = if s0 = 0 then Lq G d M_63 (258, [some (.ref 33), some (.int x1)], [], σ) else Lq G d M_63 (187, [some (.ref 33), none], [], σ) :=
  (aUn_eq (tkd G.1 G.2) tmi (aRun (tkd G.1 G.2) tmi tmt d) M_63 [] 1 (184, [some (.ref 33), some (.int x1)], [.int s0], σ)).trans rfl
set_option maxRecDepth 20000 in
theorem q_63_2072 (G : Nat × (Nat → Int32)) (d : Nat) (x1 : Int32) (σ : aH) : Lq G d M_63 (258, [some (.ref 33), some (.int x1)], [], σ) = Lq G d M_63 (272, [some (.ref 33), some (.int x1)], [.int (59 : Int32), .int x1, .ref 33], (aSI σ 33 19 ((σ.1 33 19) + (1 : Int32)))) :=
  (aUn_eq (tkd G.1 G.2) tmi (aRun (tkd G.1 G.2) tmi tmt d) M_63 [] 9 (258, [some (.ref 33), some (.int x1)], [], σ)).trans rfl
set_option maxRecDepth 20000 in
theorem q_63_2073 (G : Nat × (Nat → Int32)) (d : Nat) (x1 : Int32) (s0 : Int32) (s1 : Int32) (σ : aH) : Lq G d M_63 (272, [some (.ref 33), some (.int x1)], [.int s0, .int s1, .ref 33], σ) = if s1 = s0 then Lq G d M_63 (323, [some (.ref 33), some (.int x1)], [.ref 33], σ) else Lq G d M_63 (275, [some (.ref 33), some (.int x1)], [.ref 33], σ) :=
  (aUn_eq (tkd G.1 G.2) tmi (aRun (tkd G.1 G.2) tmi tmt d) M_63 [] 1 (272, [some (.ref 33), some (.int x1)], [.int s0, .int s1, .ref 33], σ)).trans rfl
set_option maxRecDepth 20000 in
theorem q_63_2074 (G : Nat × (Nat → Int32)) (d : Nat) (x1 : Int32) (σ : aH) : Lq G d M_63 (323, [some (.ref 33), some (.int x1)], [.ref 33], σ) = Lq G d M_63 (344, [some (.ref 33), some (.int x1)], [], (aSI (aSI σ 33 20 (3 : Int32)) 33 22 ((σ.1 33 19) - (σ.1 33 21)))) :=
  (aUn_eq (tkd G.1 G.2) tmi (aRun (tkd G.1 G.2) tmi tmt d) M_63 [] 10 (323, [some (.ref 33), some (.int x1)], [.ref 33], σ)).trans rfl
set_option maxRecDepth 20000 in
theorem q_63_2075 (G : Nat × (Nat → Int32)) (d : Nat) (x1 : Int32) (σ : aH) : Lq G d M_63 (344, [some (.ref 33), some (.int x1)], [], σ) = some (.inl none, σ) :=
  (aUn_eq (tkd G.1 G.2) tmi (aRun (tkd G.1 G.2) tmi tmt d) M_63 [] 1 (344, [some (.ref 33), some (.int x1)], [], σ)).trans rfl
set_option maxRecDepth 20000 in
theorem q_63_2076 (G : Nat × (Nat → Int32)) (d : Nat) (x1 : Int32) (σ : aH) : Lq G d M_63 (275, [some (.ref 33), some (.int x1)], [.ref 33], σ) = Lq G d M_63 (278, [some (.ref 33), some (.int x1)], [.int (40 : Int32), .int x1, .ref 33], σ) :=
  (aUn_eq (tkd G.1 G.2) tmi (aRun (tkd G.1 G.2) tmi tmt d) M_63 [] 2 (275, [some (.ref 33), some (.int x1)], [.ref 33], σ)).trans rfl
set_option maxRecDepth 20000 in
theorem q_63_2077 (G : Nat × (Nat → Int32)) (d : Nat) (x1 : Int32) (s0 : Int32) (s1 : Int32) (σ : aH) : Lq G d M_63 (278, [some (.ref 33), some (.int x1)], [.int s0, .int s1, .ref 33], σ) = if s1 = s0 then Lq G d M_63 (323, [some (.ref 33), some (.int x1)], [.ref 33], σ) else Lq G d M_63 (281, [some (.ref 33), some (.int x1)], [.ref 33], σ) :=
  (aUn_eq (tkd G.1 G.2) tmi (aRun (tkd G.1 G.2) tmi tmt d) M_63 [] 1 (278, [some (.ref 33), some (.int x1)], [.int s0, .int s1, .ref 33], σ)).trans rfl
set_option maxRecDepth 20000 in
theorem q_63_2078 (G : Nat × (Nat → Int32)) (d : Nat) (x1 : Int32) (σ : aH) : Lq G d M_63 (281, [some (.ref 33), some (.int x1)], [.ref 33], σ) = Lq G d M_63 (284, [some (.ref 33), some (.int x1)], [.int (41 : Int32), .int x1, .ref 33], σ) :=
  (aUn_eq (tkd G.1 G.2) tmi (aRun (tkd G.1 G.2) tmi tmt d) M_63 [] 2 (281, [some (.ref 33), some (.int x1)], [.ref 33], σ)).trans rfl
set_option maxRecDepth 20000 in
theorem q_63_2079 (G : Nat × (Nat → Int32)) (d : Nat) (x1 : Int32) (s0 : Int32) (s1 : Int32) (σ : aH) : Lq G d M_63 (284, [some (.ref 33), some (.int x1)], [.int s0, .int s1, .ref 33], σ) = if s1 = s0 then Lq G d M_63 (323, [some (.ref 33), some (.int x1)], [.ref 33], σ) else Lq G d M_63 (287, [some (.ref 33), some (.int x1)], [.ref 33], σ) :=
  (aUn_eq (tkd G.1 G.2) tmi (aRun (tkd G.1 G.2) tmi tmt d) M_63 [] 1 (284, [some (.ref 33), some (.int x1)], [.int s0, .int s1, .ref 33], σ)).trans rfl
set_option maxRecDepth 20000 in
theorem q_63_2080 (G : Nat × (Nat → Int32)) (d : Nat) (x1 : Int32) (σ : aH) : Lq G d M_63 (287, [some (.ref 33), some (.int x1)], [.ref 33], σ) = Lq G d M_63 (290, [some (.ref 33), some (.int x1)], [.int (43 : Int32), .int x1, .ref 33], σ) :=
  (aUn_eq (tkd G.1 G.2) tmi (aRun (tkd G.1 G.2) tmi tmt d) M_63 [] 2 (287, [some (.ref 33), some (.int x1)], [.ref 33], σ)).trans rfl
set_option maxRecDepth 20000 in
theorem q_63_2081 (G : Nat × (Nat → Int32)) (d : Nat) (x1 : Int32) (s0 : Int32) (s1 : Int32) (σ : aH) : Lq G d M_63 (290, [some (.ref 33), some (.int x1)], [.int s0, .int s1, .ref 33], σ) = if s1 = s0 then Lq G d M_63 (323, [some (.ref 33), some (.int x1)], [.ref 33], σ) else Lq G d M_63 (293, [some (.ref 33), some (.int x1)], [.ref 33], σ) :=
  (aUn_eq (tkd G.1 G.2) tmi (aRun (tkd G.1 G.2) tmi tmt d) M_63 [] 1 (290, [some (.ref 33), some (.int x1)], [.int s0, .int s1, .ref 33], σ)).trans rfl
set_option maxRecDepth 20000 in
theorem q_63_2082 (G : Nat × (Nat → Int32)) (d : Nat) (x1 : Int32) (σ : aH) : Lq G d M_63 (293, [some (.ref 33), some (.int x1)], [.ref 33], σ) = Lq G d M_63 (296, [some (.ref 33), some (.int x1)], [.int (45 : Int32), .int x1, .ref 33], σ) :=
  (aUn_eq (tkd G.1 G.2) tmi (aRun (tkd G.1 G.2) tmi tmt d) M_63 [] 2 (293, [some (.ref 33), some (.int x1)], [.ref 33], σ)).trans rfl
set_option maxRecDepth 20000 in
theorem q_63_2083 (G : Nat × (Nat → Int32)) (d : Nat) (x1 : Int32) (s0 : Int32) (s1 : Int32) (σ : aH) : Lq G d M_63 (296, [some (.ref 33), some (.int x1)], [.int s0, .int s1, .ref 33], σ) = if s1 = s0 then Lq G d M_63 (323, [some (.ref 33), some (.int x1)], [.ref 33], σ) else Lq G d M_63 (299, [some (.ref 33), some (.int x1)], [.ref 33], σ) :=
  (aUn_eq (tkd G.1 G.2) tmi (aRun (tkd G.1 G.2) tmi tmt d) M_63 [] 1 (296, [some (.ref 33), some (.int x1)], [.int s0, .int s1, .ref 33], σ)).trans rfl
set_option maxRecDepth 20000 in
theorem q_63_2084 (G : Nat × (Nat → Int32)) (d : Nat) (x1 : Int32) (σ : aH) : Lq G d M_63 (299, [some (.ref 33), some (.int x1)], [.ref 33], σ) = Lq G d M_63 (302, [some (.ref 33), some (.int x1)], [.int (42 : Int32), .int x1, .ref 33], σ) :=
  (aUn_eq (tkd G.1 G.2) tmi (aRun (tkd G.1 G.2) tmi tmt d) M_63 [] 2 (299, [some (.ref 33), some (.int x1)], [.ref 33], σ)).trans rfl
set_option maxRecDepth 20000 in
theorem q_63_2085 (G : Nat × (Nat → Int32)) (d : Nat) (x1 : Int32) (s0 : Int32) (s1 : Int32) (σ : aH) : Lq G d M_63 (302, [some (.ref 33), some (.int x1)], [.int s0, .int s1, .ref 33], σ) = if s1 = s0 then Lq G d M_63 (323, [some (.ref 33), some (.int x1)], [.ref 33], σ) else Lq G d M_63 (305, [some (.ref 33), some (.int x1)], [.ref 33], σ) :=
  (aUn_eq (tkd G.1 G.2) tmi (aRun (tkd G.1 G.2) tmi tmt d) M_63 [] 1 (302, [some (.ref 33), some (.int x1)], [.int s0, .int s1, .ref 33], σ)).trans rfl
set_option maxRecDepth 20000 in
theorem q_63_2086 (G : Nat × (Nat → Int32)) (d : Nat) (x1 : Int32) (σ : aH) : Lq G d M_63 (305, [some (.ref 33), some (.int x1)], [.ref 33], σ) = Lq G d M_63 (308, [some (.ref 33), some (.int x1)], [.int (47 : Int32), .int x1, .ref 33], σ) :=
  (aUn_eq (tkd G.1 G.2) tmi (aRun (tkd G.1 G.2) tmi tmt d) M_63 [] 2 (305, [some (.ref 33), some (.int x1)], [.ref 33], σ)).trans rfl
set_option maxRecDepth 20000 in
theorem q_63_2087 (G : Nat × (Nat → Int32)) (d : Nat) (x1 : Int32) (s0 : Int32) (s1 : Int32) (σ : aH) : Lq G d M_63 (308, [some (.ref 33), some (.int x1)], [.int s0, .int s1, .ref 33], σ) = if s1 = s0 then Lq G d M_63 (323, [some (.ref 33), some (.int x1)], [.ref 33], σ) else Lq G d M_63 (311, [some (.ref 33), some (.int x1)], [.ref 33], σ) :=
  (aUn_eq (tkd G.1 G.2) tmi (aRun (tkd G.1 G.2) tmi tmt d) M_63 [] 1 (308, [some (.ref 33), some (.int x1)], [.int s0, .int s1, .ref 33], σ)).trans rfl
set_option maxRecDepth 20000 in
theorem q_63_2088 (G : Nat × (Nat → Int32)) (d : Nat) (x1 : Int32) (σ : aH) : Lq G d M_63 (311, [some (.ref 33), some (.int x1)], [.ref 33], σ) = Lq G d M_63 (314, [some (.ref 33), some (.int x1)], [.int (60 : Int32), .int x1, .ref 33], σ) :=
  (aUn_eq (tkd G.1 G.2) tmi (aRun (tkd G.1 G.2) tmi tmt d) M_63 [] 2 (311, [some (.ref 33), some (.int x1)], [.ref 33], σ)).trans rfl
set_option maxRecDepth 20000 in
theorem q_63_2089 (G : Nat × (Nat → Int32)) (d : Nat) (x1 : Int32) (s0 : Int32) (s1 : Int32) (σ : aH) : Lq G d M_63 (314, [some (.ref 33), some (.int x1)], [.int s0, .int s1, .ref 33], σ) = if s1 = s0 then Lq G d M_63 (323, [some (.ref 33), some (.int x1)], [.ref 33], σ) else Lq G d M_63 (317, [some (.ref 33), some (.int x1)], [.ref 33], σ) :=
  (aUn_eq (tkd G.1 G.2) tmi (aRun (tkd G.1 G.2) tmi tmt d) M_63 [] 1 (314, [some (.ref 33), some (.int x1)], [.int s0, .int s1, .ref 33], σ)).trans rfl
set_option maxRecDepth 20000 in
theorem q_63_2090 (G : Nat × (Nat → Int32)) (d : Nat) (x1 : Int32) (σ : aH) : Lq G d M_63 (317, [some (.ref 33), some (.int x1)], [.ref 33], σ) = Lq G d M_63 (320, [some (.ref 33), some (.int x1)], [.int (61 : Int32), .int x1, .ref 33], σ) :=
  (aUn_eq (tkd G.1 G.2) tmi (aRun (tkd G.1 G.2) tmi tmt d) M_63 [] 2 (317, [some (.ref 33), some (.int x1)], [.ref 33], σ)).trans rfl
set_option maxRecDepth 20000 in
theorem q_63_2091 (G : Nat × (Nat → Int32)) (d : Nat) (x1 : Int32) (s0 : Int32) (s1 : Int32) (σ : aH) : Lq G d M_63 (320, [some (.ref 33), some (.int x1)], [.int s0, .int s1, .ref 33], σ) = if s1 = s0 then Lq G d M_63 (323, [some (.ref 33), some (.int x1)], [.ref 33], σ) else Lq G d M_63 (327, [some (.ref 33), some (.int x1)], [.ref 33], σ) :=
  (aUn_eq (tkd G.1 G.2) tmi (aRun (tkd G.1 G.2) tmi tmt d) M_63 [] 1 (320, [some (.ref 33), some (.int x1)], [.int s0, .int s1, .ref 33], σ)).trans rfl
set_option maxRecDepth 20000 in
theorem q_63_2092 (G : Nat × (Nat → Int32)) (d : Nat) (x1 : Int32) (σ : aH) : Lq G d M_63 (327, [some (.ref 33), some (.int x1)], [.ref 33], σ) = Lq G d M_63 (344, [some (.ref 33), some (.int x1)], [], (aSI (aSI σ 33 20 (4 : Int32)) 33 22 ((σ.1 33 19) - (σ.1 33 21)))) :=
  (aUn_eq (tkd G.1 G.2) tmi (aRun (tkd G.1 G.2) tmi tmt d) M_63 [] 9 (327, [some (.ref 33), some (.int x1)], [.ref 33], σ)).trans rfl
set_option maxRecDepth 20000 in
theorem q_63_2093 (G : Nat × (Nat → Int32)) (d : Nat) (x1 : Int32) (σ : aH) : Lq G d M_63 (93, [some (.ref 33), some (.int x1)], [], σ) = Lq G d M_63 (344, [some (.ref 33), some (.int x1)], [], (aSI (aSI σ 33 20 (0 : Int32)) 33 22 ((σ.1 33 19) - (σ.1 33 21)))) :=
  (aUn_eq (tkd G.1 G.2) tmi (aRun (tkd G.1 G.2) tmi tmt d) M_63 [] 11 (93, [some (.ref 33), some (.int x1)], [], σ)).trans rfl
set_option maxRecDepth 20000 in
theorem q_63_2094 (G : Nat × (Nat → Int32)) (d : Nat)  (σ : aH) : Lq G d M_63 (11, [some (.ref 33), none], [], σ) = Lq G d M_63 (16, [some (.ref 33), none], [.int (σ.1 33 19), .ref 33], σ) :=
  (aUn_eq (tkd G.1 G.2) tmi (aRun (tkd G.1 G.2) tmi tmt d) M_63 [] 3 (11, [some (.ref 33), none], [], σ)).trans rfl
set_option maxRecDepth 20000 in
theorem q_63_2095 (G : Nat × (Nat → Int32)) (d : Nat) (s0 : Int32) (σ : aH) : Lq G d M_63 (16, [some (.ref 33), none], [.int s0, .ref 33], σ) = aCI (Rn G d 64 [.ref 33, .int s0] σ) fun v2 σ1 => Lq G d M_63 (19, [some (.ref 33), none], [.int v2], σ1) :=
  (aUn_eq (tkd G.1 G.2) tmi (aRun (tkd G.1 G.2) tmi tmt d) M_63 [] 1 (16, [some (.ref 33), none], [.int s0, .ref 33], σ)).trans rfl
set_option maxRecDepth 20000 in
theorem q_63_2096 (G : Nat × (Nat → Int32)) (d : Nat) (s0 : Int32) (σ : aH) : Lq G d M_63 (19, [some (.ref 33), none], [.int s0], σ) = Lq G d M_63 (21, [some (.ref 33), none], [.int (32 : Int32), .int s0], σ) :=
  (aUn_eq (tkd G.1 G.2) tmi (aRun (tkd G.1 G.2) tmi tmt d) M_63 [] 1 (19, [some (.ref 33), none], [.int s0], σ)).trans rfl
set_option maxRecDepth 20000 in
theorem q_63_2097 (G : Nat × (Nat → Int32)) (d : Nat) (s0 : Int32) (s1 : Int32) (σ : aH) : Lq G d M_63 (21, [some (.ref 33), none], [.int s0, .int s1], σ) = if s1 = s0 then Lq G d M_63 (37, [some (.ref 33), none], [], σ) else Lq G d M_63 (24, [some (.ref 33), none], [], σ) :=
  (aUn_eq (tkd G.1 G.2) tmi (aRun (tkd G.1 G.2) tmi tmt d) M_63 [] 1 (21, [some (.ref 33), none], [.int s0, .int s1], σ)).trans rfl
set_option maxRecDepth 20000 in
theorem q_63_2098 (G : Nat × (Nat → Int32)) (d : Nat)  (σ : aH) : Lq G d M_63 (37, [some (.ref 33), none], [], σ) = Lq G d M_63 (0, [some (.ref 33), none], [], (aSI σ 33 19 ((σ.1 33 19) + (1 : Int32)))) :=
  (aUn_eq (tkd G.1 G.2) tmi (aRun (tkd G.1 G.2) tmi tmt d) M_63 [] 7 (37, [some (.ref 33), none], [], σ)).trans rfl
set_option maxRecDepth 20000 in
theorem q_63_2099 (G : Nat × (Nat → Int32)) (d : Nat)  (σ : aH) : Lq G d M_63 (24, [some (.ref 33), none], [], σ) = Lq G d M_63 (29, [some (.ref 33), none], [.int (σ.1 33 19), .ref 33], σ) :=
  (aUn_eq (tkd G.1 G.2) tmi (aRun (tkd G.1 G.2) tmi tmt d) M_63 [] 3 (24, [some (.ref 33), none], [], σ)).trans rfl
set_option maxRecDepth 20000 in
theorem q_63_2100 (G : Nat × (Nat → Int32)) (d : Nat) (s0 : Int32) (σ : aH) : Lq G d M_63 (29, [some (.ref 33), none], [.int s0, .ref 33], σ) = aCI (Rn G d 64 [.ref 33, .int s0] σ) fun v2 σ1 => Lq G d M_63 (32, [some (.ref 33), none], [.int v2], σ1) :=
  (aUn_eq (tkd G.1 G.2) tmi (aRun (tkd G.1 G.2) tmi tmt d) M_63 [] 1 (29, [some (.ref 33), none], [.int s0, .ref 33], σ)).trans rfl
set_option maxRecDepth 20000 in
theorem q_63_2101 (G : Nat × (Nat → Int32)) (d : Nat) (s0 : Int32) (σ : aH) : Lq G d M_63 (32, [some (.ref 33), none], [.int s0], σ) = Lq G d M_63 (34, [some (.ref 33), none], [.int (10 : Int32), .int s0], σ) :=
  (aUn_eq (tkd G.1 G.2) tmi (aRun (tkd G.1 G.2) tmi tmt d) M_63 [] 1 (32, [some (.ref 33), none], [.int s0], σ)).trans rfl
set_option maxRecDepth 20000 in
theorem q_63_2102 (G : Nat × (Nat → Int32)) (d : Nat) (s0 : Int32) (s1 : Int32) (σ : aH) : Lq G d M_63 (34, [some (.ref 33), none], [.int s0, .int s1], σ) = if s1 = s0 then Lq G d M_63 (37, [some (.ref 33), none], [], σ) else Lq G d M_63 (50, [some (.ref 33), none], [], σ) :=
  (aUn_eq (tkd G.1 G.2) tmi (aRun (tkd G.1 G.2) tmi tmt d) M_63 [] 1 (34, [some (.ref 33), none], [.int s0, .int s1], σ)).trans rfl
set_option maxRecDepth 20000 in
theorem q_63_2103 (G : Nat × (Nat → Int32)) (d : Nat)  (σ : aH) : Lq G d M_63 (187, [some (.ref 33), none], [], σ) = Lq G d M_63 (192, [some (.ref 33), none], [.int (σ.1 33 19), .ref 33], σ) :=
  (aUn_eq (tkd G.1 G.2) tmi (aRun (tkd G.1 G.2) tmi tmt d) M_63 [] 3 (187, [some (.ref 33), none], [], σ)).trans rfl
set_option maxRecDepth 20000 in
theorem q_63_2104 (G : Nat × (Nat → Int32)) (d : Nat) (s0 : Int32) (σ : aH) : Lq G d M_63 (192, [some (.ref 33), none], [.int s0, .ref 33], σ) = aCI (Rn G d 64 [.ref 33, .int s0] σ) fun v2 σ1 => Lq G d M_63 (195, [some (.ref 33), none], [.int v2], σ1) :=
  (aUn_eq (tkd G.1 G.2) tmi (aRun (tkd G.1 G.2) tmi tmt d) M_63 [] 1 (192, [some (.ref 33), none], [.int s0, .ref 33], σ)).trans rfl
set_option maxRecDepth 20000 in
theorem q_63_2105 (G : Nat × (Nat → Int32)) (d : Nat) (s0 : Int32) (σ : aH) : Lq G d M_63 (195, [some (.ref 33), none], [.int s0], σ) = aCI (Rn G d 66 [.int s0] σ) fun v2 σ1 => Lq G d M_63 (198, [some (.ref 33), none], [.int v2], σ1) :=
  (aUn_eq (tkd G.1 G.2) tmi (aRun (tkd G.1 G.2) tmi tmt d) M_63 [] 1 (195, [some (.ref 33), none], [.int s0], σ)).trans rfl
set_option maxRecDepth 20000 in
theorem q_63_2106 (G : Nat × (Nat → Int32)) (d : Nat) (s0 : Int32) (σ : aH) : Lq G d M_63 (198, [some (.ref 33), none], [.int s0], σ) = if s0 = 0 then Lq G d M_63 (250, [some (.ref 33), none], [], σ) else Lq G d M_63 (201, [some (.ref 33), none], [], σ) :=
  (aUn_eq (tkd G.1 G.2) tmi (aRun (tkd G.1 G.2) tmi tmt d) M_63 [] 1 (198, [some (.ref 33), none], [.int s0], σ)).trans rfl
set_option maxRecDepth 20000 in
theorem q_63_2107 (G : Nat × (Nat → Int32)) (d : Nat)  (σ : aH) : Lq G d M_63 (250, [some (.ref 33), none], [], σ) = Lq G d M_63 (344, [some (.ref 33), none], [], (aSI (aSI σ 33 20 (2 : Int32)) 33 22 ((σ.1 33 19) - (σ.1 33 21)))) :=
  (aUn_eq (tkd G.1 G.2) tmi (aRun (tkd G.1 G.2) tmi tmt d) M_63 [] 11 (250, [some (.ref 33), none], [], σ)).trans rfl
set_option maxRecDepth 20000 in
theorem q_63_2108 (G : Nat × (Nat → Int32)) (d : Nat)  (σ : aH) : Lq G d M_63 (344, [some (.ref 33), none], [], σ) = some (.inl none, σ) :=
  (aUn_eq (tkd G.1 G.2) tmi (aRun (tkd G.1 G.2) tmi tmt d) M_63 [] 1 (344, [some (.ref 33), none], [], σ)).trans rfl
set_option maxRecDepth 20000 in
theorem q_63_2109 (G : Nat × (Nat → Int32)) (d : Nat)  (σ : aH) : Lq G d M_63 (201, [some (.ref 33), none], [], σ) = Lq G d M_63 (211, [some (.ref 33), none], [.int (4 : Int32), .int ((σ.1 33 19) - (σ.1 33 21))], σ) :=
  (aUn_eq (tkd G.1 G.2) tmi (aRun (tkd G.1 G.2) tmi tmt d) M_63 [] 6 (201, [some (.ref 33), none], [], σ)).trans rfl
set_option maxRecDepth 20000 in
theorem q_63_2110 (G : Nat × (Nat → Int32)) (d : Nat) (s0 : Int32) (s1 : Int32) (σ : aH) : Lq G d M_63 (211, [some (.ref 33), none], [.int s0, .int s1], σ) = if s0 ≤ s1 then Lq G d M_63 (237, [some (.ref 33), none], [], σ) else Lq G d M_63 (214, [some (.ref 33), none], [], σ) :=
  (aUn_eq (tkd G.1 G.2) tmi (aRun (tkd G.1 G.2) tmi tmt d) M_63 [] 1 (211, [some (.ref 33), none], [.int s0, .int s1], σ)).trans rfl
set_option maxRecDepth 20000 in
theorem q_63_2111 (G : Nat × (Nat → Int32)) (d : Nat)  (σ : aH) : Lq G d M_63 (237, [some (.ref 33), none], [], σ) = Lq G d M_63 (187, [some (.ref 33), none], [], (aSI σ 33 19 ((σ.1 33 19) + (1 : Int32)))) :=
  (aUn_eq (tkd G.1 G.2) tmi (aRun (tkd G.1 G.2) tmi tmt d) M_63 [] 7 (237, [some (.ref 33), none], [], σ)).trans rfl
set_option maxRecDepth 20000 in
theorem q_63_2112 (G : Nat × (Nat → Int32)) (d : Nat)  (σ : aH) : Lq G d M_63 (214, [some (.ref 33), none], [], σ) = Lq G d M_63 (227, [some (.ref 33), none], [.int (σ.1 33 19), .ref 33, .int ((10 : Int32) * (σ.1 33 23)), .ref 33], σ) :=
  (aUn_eq (tkd G.1 G.2) tmi (aRun (tkd G.1 G.2) tmi tmt d) M_63 [] 8 (214, [some (.ref 33), none], [], σ)).trans rfl
set_option maxRecDepth 20000 in
theorem q_63_2113 (G : Nat × (Nat → Int32)) (d : Nat) (s0 : Int32) (s2 : Int32) (σ : aH) : Lq G d M_63 (227, [some (.ref 33), none], [.int s0, .ref 33, .int s2, .ref 33], σ) = aCI (Rn G d 64 [.ref 33, .int s0] σ) fun v2 σ1 => Lq G d M_63 (230, [some (.ref 33), none], [.int v2, .int s2, .ref 33], σ1) :=
  (aUn_eq (tkd G.1 G.2) tmi (aRun (tkd G.1 G.2) tmi tmt d) M_63 [] 1 (227, [some (.ref 33), none], [.int s0, .ref 33, .int s2, .ref 33], σ)).trans rfl
set_option maxRecDepth 20000 in
theorem q_63_2114 (G : Nat × (Nat → Int32)) (d : Nat) (s0 : Int32) (s1 : Int32) (σ : aH) : Lq G d M_63 (230, [some (.ref 33), none], [.int s0, .int s1, .ref 33], σ) = Lq G d M_63 (247, [some (.ref 33), none], [], (aSI (aSI σ 33 23 ((s1 + s0) - (48 : Int32))) 33 19 ((σ.1 33 19) + (1 : Int32)))) :=
  (aUn_eq (tkd G.1 G.2) tmi (aRun (tkd G.1 G.2) tmi tmt d) M_63 [] 10 (230, [some (.ref 33), none], [.int s0, .int s1, .ref 33], σ)).trans rfl
set_option maxRecDepth 20000 in
theorem q_63_2115 (G : Nat × (Nat → Int32)) (d : Nat)  (σ : aH) : Lq G d M_63 (247, [some (.ref 33), none], [], σ) = Lq G d M_63 (187, [some (.ref 33), none], [], σ) :=
  (aUn_eq (tkd G.1 G.2) tmi (aRun (tkd G.1 G.2) tmi tmt d) M_63 [] 1 (247, [some (.ref 33), none], [], σ)).trans rfl
set_option maxRecDepth 20000 in
theorem q_63_2116 (G : Nat × (Nat → Int32)) (d : Nat)  (σ : aH) : Lq G d M_63 (108, [some (.ref 33), none], [], σ) = Lq G d M_63 (113, [some (.ref 33), none], [.int (σ.1 33 19), .ref 33], σ) :=
  (aUn_eq (tkd G.1 G.2) tmi (aRun (tkd G.1 G.2) tmi tmt d) M_63 [] 3 (108, [some (.ref 33), none], [], σ)).trans rfl
set_option maxRecDepth 20000 in
theorem q_63_2117 (G : Nat × (Nat → Int32)) (d : Nat) (s0 : Int32) (σ : aH) : Lq G d M_63 (113, [some (.ref 33), none], [.int s0, .ref 33], σ) = aCI (Rn G d 64 [.ref 33, .int s0] σ) fun v2 σ1 => Lq G d M_63 (116, [some (.ref 33), none], [.int v2], σ1) :=
  (aUn_eq (tkd G.1 G.2) tmi (aRun (tkd G.1 G.2) tmi tmt d) M_63 [] 1 (113, [some (.ref 33), none], [.int s0, .ref 33], σ)).trans rfl
set_option maxRecDepth 20000 in
theorem q_63_2118 (G : Nat × (Nat → Int32)) (d : Nat) (s0 : Int32) (σ : aH) : Lq G d M_63 (116, [some (.ref 33), none], [.int s0], σ) = aCI (Rn G d 65 [.int s0] σ) fun v2 σ1 => Lq G d M_63 (119, [some (.ref 33), none], [.int v2], σ1) :=
  (aUn_eq (tkd G.1 G.2) tmi (aRun (tkd G.1 G.2) tmi tmt d) M_63 [] 1 (116, [some (.ref 33), none], [.int s0], σ)).trans rfl
set_option maxRecDepth 20000 in
theorem q_63_2119 (G : Nat × (Nat → Int32)) (d : Nat) (s0 : Int32) (σ : aH) : Lq G d M_63 (119, [some (.ref 33), none], [.int s0], σ) = if s0 = 0 then Lq G d M_63 (172, [some (.ref 33), none], [], σ) else Lq G d M_63 (122, [some (.ref 33), none], [], σ) :=
  (aUn_eq (tkd G.1 G.2) tmi (aRun (tkd G.1 G.2) tmi tmt d) M_63 [] 1 (119, [some (.ref 33), none], [.int s0], σ)).trans rfl
set_option maxRecDepth 20000 in
theorem q_63_2120 (G : Nat × (Nat → Int32)) (d : Nat)  (σ : aH) : Lq G d M_63 (172, [some (.ref 33), none], [], σ) = Lq G d M_63 (344, [some (.ref 33), none], [], (aSI (aSI σ 33 20 (1 : Int32)) 33 22 ((σ.1 33 19) - (σ.1 33 21)))) :=
  (aUn_eq (tkd G.1 G.2) tmi (aRun (tkd G.1 G.2) tmi tmt d) M_63 [] 11 (172, [some (.ref 33), none], [], σ)).trans rfl
set_option maxRecDepth 20000 in
theorem q_63_2121 (G : Nat × (Nat → Int32)) (d : Nat)  (σ : aH) : Lq G d M_63 (122, [some (.ref 33), none], [], σ) = Lq G d M_63 (133, [some (.ref 33), none], [.int (8 : Int32), .int ((σ.1 33 19) - (σ.1 33 21))], σ) :=
  (aUn_eq (tkd G.1 G.2) tmi (aRun (tkd G.1 G.2) tmi tmt d) M_63 [] 6 (122, [some (.ref 33), none], [], σ)).trans rfl
set_option maxRecDepth 20000 in
theorem q_63_2122 (G : Nat × (Nat → Int32)) (d : Nat) (s0 : Int32) (s1 : Int32) (σ : aH) : Lq G d M_63 (133, [some (.ref 33), none], [.int s0, .int s1], σ) = if s0 ≤ s1 then Lq G d M_63 (159, [some (.ref 33), none], [], σ) else Lq G d M_63 (136, [some (.ref 33), none], [], σ) :=
  (aUn_eq (tkd G.1 G.2) tmi (aRun (tkd G.1 G.2) tmi tmt d) M_63 [] 1 (133, [some (.ref 33), none], [.int s0, .int s1], σ)).trans rfl
set_option maxRecDepth 20000 in
theorem q_63_2123 (G : Nat × (Nat → Int32)) (d : Nat)  (σ : aH) : Lq G d M_63 (159, [some (.ref 33), none], [], σ) = Lq G d M_63 (108, [some (.ref 33), none], [], (aSI σ 33 19 ((σ.1 33 19) + (1 : Int32)))) :=
  (aUn_eq (tkd G.1 G.2) tmi (aRun (tkd G.1 G.2) tmi tmt d) M_63 [] 7 (159, [some (.ref 33), none], [], σ)).trans rfl
set_option maxRecDepth 20000 in
theorem q_63_2124 (G : Nat × (Nat → Int32)) (d : Nat)  (σ : aH) : Lq G d M_63 (136, [some (.ref 33), none], [], σ) = Lq G d M_63 (148, [some (.ref 33), none], [.int (σ.1 33 19), .ref 33, .long ((σ.2 33 25) <<< (((5 : Int32)).toInt64 &&& 63)), .ref 33], σ) :=
  (aUn_eq (tkd G.1 G.2) tmi (aRun (tkd G.1 G.2) tmi tmt d) M_63 [] 8 (136, [some (.ref 33), none], [], σ)).trans rfl
set_option maxRecDepth 20000 in
theorem q_63_2125 (G : Nat × (Nat → Int32)) (d : Nat) (s0 : Int32) (s2 : Int64) (σ : aH) : Lq G d M_63 (148, [some (.ref 33), none], [.int s0, .ref 33, .long s2, .ref 33], σ) = aCI (Rn G d 64 [.ref 33, .int s0] σ) fun v2 σ1 => Lq G d M_63 (151, [some (.ref 33), none], [.int v2, .long s2, .ref 33], σ1) :=
  (aUn_eq (tkd G.1 G.2) tmi (aRun (tkd G.1 G.2) tmi tmt d) M_63 [] 1 (148, [some (.ref 33), none], [.int s0, .ref 33, .long s2, .ref 33], σ)).trans rfl
set_option maxRecDepth 20000 in
theorem q_63_2126 (G : Nat × (Nat → Int32)) (d : Nat) (s0 : Int32) (s1 : Int64) (σ : aH) : Lq G d M_63 (151, [some (.ref 33), none], [.int s0, .long s1, .ref 33], σ) = Lq G d M_63 (169, [some (.ref 33), none], [], (aSI (aSL σ 33 25 (s1 ||| ((s0 - (96 : Int32))).toInt64)) 33 19 ((σ.1 33 19) + (1 : Int32)))) :=
  (aUn_eq (tkd G.1 G.2) tmi (aRun (tkd G.1 G.2) tmi tmt d) M_63 [] 11 (151, [some (.ref 33), none], [.int s0, .long s1, .ref 33], σ)).trans rfl
set_option maxRecDepth 20000 in
theorem q_63_2127 (G : Nat × (Nat → Int32)) (d : Nat)  (σ : aH) : Lq G d M_63 (169, [some (.ref 33), none], [], σ) = Lq G d M_63 (108, [some (.ref 33), none], [], σ) :=
  (aUn_eq (tkd G.1 G.2) tmi (aRun (tkd G.1 G.2) tmi tmt d) M_63 [] 1 (169, [some (.ref 33), none], [], σ)).trans rfl
set_option maxRecDepth 20000 in
theorem q_67_2128 (G : Nat × (Nat → Int32)) (d : Nat)  (σ : aH) : Lq G d M_67 (0, [some (.ref 33)], [], σ) = Lq G d M_67 (4, [some (.ref 33)], [.int (σ.1 33 16)], σ) :=
  (aUn_eq (tkd G.1 G.2) tmi (aRun (tkd G.1 G.2) tmi tmt d) M_67 [] 2 (0, [some (.ref 33)], [], σ)).trans rfl
set_option maxRecDepth 20000 in
theorem q_67_2129 (G : Nat × (Nat → Int32)) (d : Nat) (s0 : Int32) (σ : aH) : Lq G d M_67 (4, [some (.ref 33)], [.int s0], σ) = if s0 = 0 then Lq G d M_67 (7, [some (.ref 33)], [], σ) else Lq G d M_67 (11, [some (.ref 33)], [], σ) :=
  (aUn_eq (tkd G.1 G.2) tmi (aRun (tkd G.1 G.2) tmi tmt d) M_67 [] 1 (4, [some (.ref 33)], [.int s0], σ)).trans rfl
set_option maxRecDepth 20000 in
theorem q_67_2130 (G : Nat × (Nat → Int32)) (d : Nat)  (σ : aH) : Lq G d M_67 (7, [some (.ref 33)], [], σ) = Lq G d M_67 (12, [some (.ref 33)], [.int (1 : Int32)], σ) :=
  (aUn_eq (tkd G.1 G.2) tmi (aRun (tkd G.1 G.2) tmi tmt d) M_67 [] 2 (7, [some (.ref 33)], [], σ)).trans rfl
set_option maxRecDepth 20000 in
theorem q_67_2131 (G : Nat × (Nat → Int32)) (d : Nat) (s0 : Int32) (σ : aH) : Lq G d M_67 (12, [some (.ref 33)], [.int s0], σ) = aNar .boolean (s0) (some (.inl (some (.int s0)), σ)) :=
  (aUn_eq (tkd G.1 G.2) tmi (aRun (tkd G.1 G.2) tmi tmt d) M_67 [] 1 (12, [some (.ref 33)], [.int s0], σ)).trans rfl
set_option maxRecDepth 20000 in
theorem q_67_2132 (G : Nat × (Nat → Int32)) (d : Nat)  (σ : aH) : Lq G d M_67 (11, [some (.ref 33)], [], σ) = Lq G d M_67 (12, [some (.ref 33)], [.int (0 : Int32)], σ) :=
  (aUn_eq (tkd G.1 G.2) tmi (aRun (tkd G.1 G.2) tmi tmt d) M_67 [] 1 (11, [some (.ref 33)], [], σ)).trans rfl
set_option maxRecDepth 20000 in
theorem q_92_2133 (G : Nat × (Nat → Int32)) (d : Nat) (rx1 : Nat) (rx2 : Nat) (σ : aH) : Lq G d M_92 (0, [some (.ref 33), some (.ref rx1), some (.ref rx2), none], [], σ) = Lq G d M_92 (2, [none, some (.ref rx1), some (.ref rx2), some (.int (0 : Int32))], [], σ) :=
  (aUn_eq (tkd G.1 G.2) tmi (aRun (tkd G.1 G.2) tmi tmt d) M_92 [] 2 (0, [some (.ref 33), some (.ref rx1), some (.ref rx2), none], [], σ)).trans rfl
set_option maxRecDepth 20000 in
theorem q_92_2134 (G : Nat × (Nat → Int32)) (d : Nat) (rx1 : Nat) (rx2 : Nat) (x3 : Int32) (σ : aH) : Lq G d M_92 (2, [none, some (.ref rx1), some (.ref rx2), some (.int x3)], [], σ) = Lq G d M_92 (4, [none, some (.ref rx1), some (.ref rx2), some (.int x3)], [.ref rx1, .int x3], σ) :=
  (aUn_eq (tkd G.1 G.2) tmi (aRun (tkd G.1 G.2) tmi tmt d) M_92 [] 2 (2, [none, some (.ref rx1), some (.ref rx2), some (.int x3)], [], σ)).trans rfl
set_option maxRecDepth 20000 in
theorem q_92_2135 (G : Nat × (Nat → Int32)) (d : Nat) (rx1 : Nat) (rx2 : Nat) (x3 : Int32) (rs0 : Nat) (s1 : Int32) (σ : aH) : Lq G d M_92 (4, [none, some (.ref rx1), some (.ref rx2), some (.int x3)], [.ref rs0, .int s1], σ) = aLen (tkd G.1 G.2) rs0 fun n1 => Lq G d M_92 (5, [none, some (.ref rx1), some (.ref rx2), some (.int x3)], [.int (Int32.ofNat n1), .int s1], σ) :=
  (aUn_eq (tkd G.1 G.2) tmi (aRun (tkd G.1 G.2) tmi tmt d) M_92 [] 1 (4, [none, some (.ref rx1), some (.ref rx2), some (.int x3)], [.ref rs0, .int s1], σ)).trans rfl
set_option maxRecDepth 20000 in
theorem q_92_2136 (G : Nat × (Nat → Int32)) (d : Nat) (rx1 : Nat) (rx2 : Nat) (x3 : Int32) (s0 : Int32) (s1 : Int32) (σ : aH) : Lq G d M_92 (5, [none, some (.ref rx1), some (.ref rx2), some (.int x3)], [.int s0, .int s1], σ) = if s0 ≤ s1 then Lq G d M_92 (20, [none, some (.ref rx1), some (.ref rx2), some (.int x3)], [], σ) else Lq G d M_92 (8, [none, some (.ref rx1), some (.ref rx2), some (.int x3)], [], σ) :=
  (aUn_eq (tkd G.1 G.2) tmi (aRun (tkd G.1 G.2) tmi tmt d) M_92 [] 1 (5, [none, some (.ref rx1), some (.ref rx2), some (.int x3)], [.int s0, .int s1], σ)).trans rfl
set_option maxRecDepth 20000 in
theorem q_92_2137 (G : Nat × (Nat → Int32)) (d : Nat) (rx1 : Nat) (rx2 : Nat) (x3 : Int32) (σ : aH) : Lq G d M_92 (20, [none, some (.ref rx1), some (.ref rx2), some (.int x3)], [], σ) = some (.inl none, σ) :=
  (aUn_eq (tkd G.1 G.2) tmi (aRun (tkd G.1 G.2) tmi tmt d) M_92 [] 1 (20, [none, some (.ref rx1), some (.ref rx2), some (.int x3)], [], σ)).trans rfl
set_option maxRecDepth 20000 in
theorem q_92_2138 (G : Nat × (Nat → Int32)) (d : Nat) (rx1 : Nat) (rx2 : Nat) (x3 : Int32) (σ : aH) : Lq G d M_92 (8, [none, some (.ref rx1), some (.ref rx2), some (.int x3)], [], σ) = Lq G d M_92 (12, [none, some (.ref rx1), some (.ref rx2), some (.int x3)], [.int x3, .ref rx1, .int x3, .ref rx2], σ) :=
  (aUn_eq (tkd G.1 G.2) tmi (aRun (tkd G.1 G.2) tmi tmt d) M_92 [] 4 (8, [none, some (.ref rx1), some (.ref rx2), some (.int x3)], [], σ)).trans rfl
set_option maxRecDepth 20000 in
theorem q_92_2139 (G : Nat × (Nat → Int32)) (d : Nat) (rx1 : Nat) (rx2 : Nat) (x3 : Int32) (s0 : Int32) (rs1 : Nat) (s2 : Int32) (rs3 : Nat) (σ : aH) : Lq G d M_92 (12, [none, some (.ref rx1), some (.ref rx2), some (.int x3)], [.int s0, .ref rs1, .int s2, .ref rs3], σ) = aArr (tkd G.1 G.2) 0 rs1 σ fun n2 f3 => aIx (s0) n2 fun j1 => Lq G d M_92 (13, [none, some (.ref rx1), some (.ref rx2), some (.int x3)], [.int (f3 j1), .int s2, .ref rs3], σ) :=
  (aUn_eq (tkd G.1 G.2) tmi (aRun (tkd G.1 G.2) tmi tmt d) M_92 [] 1 (12, [none, some (.ref rx1), some (.ref rx2), some (.int x3)], [.int s0, .ref rs1, .int s2, .ref rs3], σ)).trans rfl
set_option maxRecDepth 20000 in
theorem q_92_2140 (G : Nat × (Nat → Int32)) (d : Nat) (rx1 : Nat) (rx2 : Nat) (x3 : Int32) (s0 : Int32) (s1 : Int32) (rs2 : Nat) (σ : aH) : Lq G d M_92 (13, [none, some (.ref rx1), some (.ref rx2), some (.int x3)], [.int s0, .int s1, .ref rs2], σ) = aArS (tkd G.1 G.2) 0 rs2 fun n2 => aIx (s1) n2 fun j1 => Lq G d M_92 (14, [none, some (.ref rx1), some (.ref rx2), some (.int x3)], [], (aSI σ rs2 j1 s0)) :=
  (aUn_eq (tkd G.1 G.2) tmi (aRun (tkd G.1 G.2) tmi tmt d) M_92 [] 1 (13, [none, some (.ref rx1), some (.ref rx2), some (.int x3)], [.int s0, .int s1, .ref rs2], σ)).trans rfl
set_option maxRecDepth 20000 in
theorem q_92_2141 (G : Nat × (Nat → Int32)) (d : Nat) (rx1 : Nat) (rx2 : Nat) (x3 : Int32) (σ : aH) : Lq G d M_92 (14, [none, some (.ref rx1), some (.ref rx2), some (.int x3)], [], σ) = Lq G d M_92 (2, [none, some (.ref rx1), some (.ref rx2), some (.int (x3 + (1 : Int32)))], [], σ) :=
  (aUn_eq (tkd G.1 G.2) tmi (aRun (tkd G.1 G.2) tmi tmt d) M_92 [] 2 (14, [none, some (.ref rx1), some (.ref rx2), some (.int x3)], [], σ)).trans rfl
set_option maxRecDepth 20000 in
theorem q_68_2142 (G : Nat × (Nat → Int32)) (d : Nat)  (σ : aH) : Lq G d M_68 (0, [some (.ref 33), none], [], σ) = Lq G d M_68 (1, [some (.ref 33), none], [.ref 33], σ) :=
  (aUn_eq (tkd G.1 G.2) tmi (aRun (tkd G.1 G.2) tmi tmt d) M_68 [] 1 (0, [some (.ref 33), none], [], σ)).trans rfl
set_option maxRecDepth 20000 in
theorem q_68_2143 (G : Nat × (Nat → Int32)) (d : Nat)  (σ : aH) : Lq G d M_68 (1, [some (.ref 33), none], [.ref 33], σ) = aCI (Rn G d 69 [.ref 33] σ) fun v2 σ1 => Lq G d M_68 (4, [some (.ref 33), none], [.int v2], σ1) :=
  (aUn_eq (tkd G.1 G.2) tmi (aRun (tkd G.1 G.2) tmi tmt d) M_68 [] 1 (1, [some (.ref 33), none], [.ref 33], σ)).trans rfl
set_option maxRecDepth 20000 in
theorem q_68_2144 (G : Nat × (Nat → Int32)) (d : Nat) (s0 : Int32) (σ : aH) : Lq G d M_68 (4, [some (.ref 33), none], [.int s0], σ) = Lq G d M_68 (8, [some (.ref 33), some (.int s0)], [.int (12 : Int32), .int s0], σ) :=
  (aUn_eq (tkd G.1 G.2) tmi (aRun (tkd G.1 G.2) tmi tmt d) M_68 [] 3 (4, [some (.ref 33), none], [.int s0], σ)).trans rfl
set_option maxRecDepth 20000 in
theorem q_68_2145 (G : Nat × (Nat → Int32)) (d : Nat) (x1 : Int32) (s0 : Int32) (s1 : Int32) (σ : aH) : Lq G d M_68 (8, [some (.ref 33), some (.int x1)], [.int s0, .int s1], σ) = if s1 = s0 then Lq G d M_68 (11, [some (.ref 33), some (.int x1)], [], σ) else Lq G d M_68 (18, [some (.ref 33), some (.int x1)], [], σ) :=
  (aUn_eq (tkd G.1 G.2) tmi (aRun (tkd G.1 G.2) tmi tmt d) M_68 [] 1 (8, [some (.ref 33), some (.int x1)], [.int s0, .int s1], σ)).trans rfl
set_option maxRecDepth 20000 in
theorem q_68_2146 (G : Nat × (Nat → Int32)) (d : Nat) (x1 : Int32) (σ : aH) : Lq G d M_68 (11, [some (.ref 33), some (.int x1)], [], σ) = Lq G d M_68 (12, [some (.ref 33), some (.int x1)], [.ref 33], σ) :=
  (aUn_eq (tkd G.1 G.2) tmi (aRun (tkd G.1 G.2) tmi tmt d) M_68 [] 1 (11, [some (.ref 33), some (.int x1)], [], σ)).trans rfl
set_option maxRecDepth 20000 in
theorem q_68_2147 (G : Nat × (Nat → Int32)) (d : Nat) (x1 : Int32) (σ : aH) : Lq G d M_68 (12, [some (.ref 33), some (.int x1)], [.ref 33], σ) = aCV (Rn G d 72 [.ref 33] σ) fun σ1 => Lq G d M_68 (15, [some (.ref 33), some (.int x1)], [], σ1) :=
  (aUn_eq (tkd G.1 G.2) tmi (aRun (tkd G.1 G.2) tmi tmt d) M_68 [] 1 (12, [some (.ref 33), some (.int x1)], [.ref 33], σ)).trans rfl
set_option maxRecDepth 20000 in
theorem q_68_2148 (G : Nat × (Nat → Int32)) (d : Nat) (x1 : Int32) (σ : aH) : Lq G d M_68 (15, [some (.ref 33), some (.int x1)], [], σ) = Lq G d M_68 (79, [some (.ref 33), some (.int x1)], [.int (59 : Int32), .ref 33, .ref 33], σ) :=
  (aUn_eq (tkd G.1 G.2) tmi (aRun (tkd G.1 G.2) tmi tmt d) M_68 [] 4 (15, [some (.ref 33), some (.int x1)], [], σ)).trans rfl
set_option maxRecDepth 20000 in
theorem q_68_2149 (G : Nat × (Nat → Int32)) (d : Nat) (x1 : Int32) (s0 : Int32) (σ : aH) : Lq G d M_68 (79, [some (.ref 33), some (.int x1)], [.int s0, .ref 33, .ref 33], σ) = aCI (Rn G d 85 [.ref 33, .int s0] σ) fun v2 σ1 => Lq G d M_68 (82, [some (.ref 33), some (.int x1)], [.int v2, .ref 33], σ1) :=
  (aUn_eq (tkd G.1 G.2) tmi (aRun (tkd G.1 G.2) tmi tmt d) M_68 [] 1 (79, [some (.ref 33), some (.int x1)], [.int s0, .ref 33, .ref 33], σ)).trans rfl
set_option maxRecDepth 20000 in
theorem q_68_2150 (G : Nat × (Nat → Int32)) (d : Nat) (x1 : Int32) (s0 : Int32) (σ : aH) : Lq G d M_68 (82, [some (.ref 33), some (.int x1)], [.int s0, .ref 33], σ) = aCV (Rn G d 75 [.ref 33, .int s0] σ) fun σ1 => Lq G d M_68 (85, [some (.ref 33), some (.int x1)], [], σ1) :=
  (aUn_eq (tkd G.1 G.2) tmi (aRun (tkd G.1 G.2) tmi tmt d) M_68 [] 1 (82, [some (.ref 33), some (.int x1)], [.int s0, .ref 33], σ)).trans rfl
set_option maxRecDepth 20000 in
theorem q_68_2151 (G : Nat × (Nat → Int32)) (d : Nat) (x1 : Int32) (σ : aH) : Lq G d M_68 (85, [some (.ref 33), some (.int x1)], [], σ) = some (.inl none, σ) :=
  (aUn_eq (tkd G.1 G.2) tmi (aRun (tkd G.1 G.2) tmi tmt d) M_68 [] 1 (85, [some (.ref 33), some (.int x1)], [], σ)).trans rfl
set_option maxRecDepth 20000 in
theorem q_68_2152 (G : Nat × (Nat → Int32)) (d : Nat) (x1 : Int32) (σ : aH) : Lq G d M_68 (18, [some (.ref 33), some (.int x1)], [], σ) = Lq G d M_68 (21, [some (.ref 33), some (.int x1)], [.int (19 : Int32), .int x1], σ) :=
  (aUn_eq (tkd G.1 G.2) tmi (aRun (tkd G.1 G.2) tmi tmt d) M_68 [] 2 (18, [some (.ref 33), some (.int x1)], [], σ)).trans rfl
set_option maxRecDepth 20000 in
theorem q_68_2153 (G : Nat × (Nat → Int32)) (d : Nat) (x1 : Int32) (s0 : Int32) (s1 : Int32) (σ : aH) : Lq G d M_68 (21, [some (.ref 33), some (.int x1)], [.int s0, .int s1], σ) = if s1 = s0 then Lq G d M_68 (24, [some (.ref 33), some (.int x1)], [], σ) else Lq G d M_68 (31, [some (.ref 33), some (.int x1)], [], σ) :=
  (aUn_eq (tkd G.1 G.2) tmi (aRun (tkd G.1 G.2) tmi tmt d) M_68 [] 1 (21, [some (.ref 33), some (.int x1)], [.int s0, .int s1], σ)).trans rfl
set_option maxRecDepth 20000 in
theorem q_68_2154 (G : Nat × (Nat → Int32)) (d : Nat) (x1 : Int32) (σ : aH) : Lq G d M_68 (24, [some (.ref 33), some (.int x1)], [], σ) = Lq G d M_68 (25, [some (.ref 33), some (.int x1)], [.ref 33], σ) :=
  (aUn_eq (tkd G.1 G.2) tmi (aRun (tkd G.1 G.2) tmi tmt d) M_68 [] 1 (24, [some (.ref 33), some (.int x1)], [], σ)).trans rfl
set_option maxRecDepth 20000 in
theorem q_68_2155 (G : Nat × (Nat → Int32)) (d : Nat) (x1 : Int32) (σ : aH) : Lq G d M_68 (25, [some (.ref 33), some (.int x1)], [.ref 33], σ) = aCV (Rn G d 78 [.ref 33] σ) fun σ1 => Lq G d M_68 (28, [some (.ref 33), some (.int x1)], [], σ1) :=
  (aUn_eq (tkd G.1 G.2) tmi (aRun (tkd G.1 G.2) tmi tmt d) M_68 [] 1 (25, [some (.ref 33), some (.int x1)], [.ref 33], σ)).trans rfl
set_option maxRecDepth 20000 in
theorem q_68_2156 (G : Nat × (Nat → Int32)) (d : Nat) (x1 : Int32) (σ : aH) : Lq G d M_68 (28, [some (.ref 33), some (.int x1)], [], σ) = Lq G d M_68 (79, [some (.ref 33), some (.int x1)], [.int (59 : Int32), .ref 33, .ref 33], σ) :=
  (aUn_eq (tkd G.1 G.2) tmi (aRun (tkd G.1 G.2) tmi tmt d) M_68 [] 4 (28, [some (.ref 33), some (.int x1)], [], σ)).trans rfl
set_option maxRecDepth 20000 in
theorem q_68_2157 (G : Nat × (Nat → Int32)) (d : Nat) (x1 : Int32) (σ : aH) : Lq G d M_68 (31, [some (.ref 33), some (.int x1)], [], σ) = Lq G d M_68 (34, [some (.ref 33), some (.int x1)], [.int (24 : Int32), .int x1], σ) :=
  (aUn_eq (tkd G.1 G.2) tmi (aRun (tkd G.1 G.2) tmi tmt d) M_68 [] 2 (31, [some (.ref 33), some (.int x1)], [], σ)).trans rfl
set_option maxRecDepth 20000 in
theorem q_68_2158 (G : Nat × (Nat → Int32)) (d : Nat) (x1 : Int32) (s0 : Int32) (s1 : Int32) (σ : aH) : Lq G d M_68 (34, [some (.ref 33), some (.int x1)], [.int s0, .int s1], σ) = if s1 = s0 then Lq G d M_68 (37, [some (.ref 33), some (.int x1)], [], σ) else Lq G d M_68 (44, [some (.ref 33), some (.int x1)], [], σ) :=
  (aUn_eq (tkd G.1 G.2) tmi (aRun (tkd G.1 G.2) tmi tmt d) M_68 [] 1 (34, [some (.ref 33), some (.int x1)], [.int s0, .int s1], σ)).trans rfl
set_option maxRecDepth 20000 in
theorem q_68_2159 (G : Nat × (Nat → Int32)) (d : Nat) (x1 : Int32) (σ : aH) : Lq G d M_68 (37, [some (.ref 33), some (.int x1)], [], σ) = Lq G d M_68 (38, [some (.ref 33), some (.int x1)], [.ref 33], σ) :=
  (aUn_eq (tkd G.1 G.2) tmi (aRun (tkd G.1 G.2) tmi tmt d) M_68 [] 1 (37, [some (.ref 33), some (.int x1)], [], σ)).trans rfl
set_option maxRecDepth 20000 in
theorem q_68_2160 (G : Nat × (Nat → Int32)) (d : Nat) (x1 : Int32) (σ : aH) : Lq G d M_68 (38, [some (.ref 33), some (.int x1)], [.ref 33], σ) = aCV (Rn G d 80 [.ref 33] σ) fun σ1 => Lq G d M_68 (41, [some (.ref 33), some (.int x1)], [], σ1) :=
  (aUn_eq (tkd G.1 G.2) tmi (aRun (tkd G.1 G.2) tmi tmt d) M_68 [] 1 (38, [some (.ref 33), some (.int x1)], [.ref 33], σ)).trans rfl
set_option maxRecDepth 20000 in
theorem q_68_2161 (G : Nat × (Nat → Int32)) (d : Nat) (x1 : Int32) (σ : aH) : Lq G d M_68 (41, [some (.ref 33), some (.int x1)], [], σ) = Lq G d M_68 (79, [some (.ref 33), some (.int x1)], [.int (59 : Int32), .ref 33, .ref 33], σ) :=
  (aUn_eq (tkd G.1 G.2) tmi (aRun (tkd G.1 G.2) tmi tmt d) M_68 [] 4 (41, [some (.ref 33), some (.int x1)], [], σ)).trans rfl
set_option maxRecDepth 20000 in
theorem q_68_2162 (G : Nat × (Nat → Int32)) (d : Nat) (x1 : Int32) (σ : aH) : Lq G d M_68 (44, [some (.ref 33), some (.int x1)], [], σ) = Lq G d M_68 (47, [some (.ref 33), some (.int x1)], [.int (31 : Int32), .int x1], σ) :=
  (aUn_eq (tkd G.1 G.2) tmi (aRun (tkd G.1 G.2) tmi tmt d) M_68 [] 2 (44, [some (.ref 33), some (.int x1)], [], σ)).trans rfl
set_option maxRecDepth 20000 in
theorem q_68_2163 (G : Nat × (Nat → Int32)) (d : Nat) (x1 : Int32) (s0 : Int32) (s1 : Int32) (σ : aH) : Lq G d M_68 (47, [some (.ref 33), some (.int x1)], [.int s0, .int s1], σ) = if s1 = s0 then Lq G d M_68 (50, [some (.ref 33), some (.int x1)], [], σ) else Lq G d M_68 (57, [some (.ref 33), some (.int x1)], [], σ) :=
  (aUn_eq (tkd G.1 G.2) tmi (aRun (tkd G.1 G.2) tmi tmt d) M_68 [] 1 (47, [some (.ref 33), some (.int x1)], [.int s0, .int s1], σ)).trans rfl
set_option maxRecDepth 20000 in
theorem q_68_2164 (G : Nat × (Nat → Int32)) (d : Nat) (x1 : Int32) (σ : aH) : Lq G d M_68 (50, [some (.ref 33), some (.int x1)], [], σ) = Lq G d M_68 (51, [some (.ref 33), some (.int x1)], [.ref 33], σ) :=
  (aUn_eq (tkd G.1 G.2) tmi (aRun (tkd G.1 G.2) tmi tmt d) M_68 [] 1 (50, [some (.ref 33), some (.int x1)], [], σ)).trans rfl
set_option maxRecDepth 20000 in
theorem q_68_2165 (G : Nat × (Nat → Int32)) (d : Nat) (x1 : Int32) (σ : aH) : Lq G d M_68 (51, [some (.ref 33), some (.int x1)], [.ref 33], σ) = aCV (Rn G d 81 [.ref 33] σ) fun σ1 => Lq G d M_68 (54, [some (.ref 33), some (.int x1)], [], σ1) :=
  (aUn_eq (tkd G.1 G.2) tmi (aRun (tkd G.1 G.2) tmi tmt d) M_68 [] 1 (51, [some (.ref 33), some (.int x1)], [.ref 33], σ)).trans rfl
set_option maxRecDepth 20000 in
theorem q_68_2166 (G : Nat × (Nat → Int32)) (d : Nat) (x1 : Int32) (σ : aH) : Lq G d M_68 (54, [some (.ref 33), some (.int x1)], [], σ) = Lq G d M_68 (79, [some (.ref 33), some (.int x1)], [.int (59 : Int32), .ref 33, .ref 33], σ) :=
  (aUn_eq (tkd G.1 G.2) tmi (aRun (tkd G.1 G.2) tmi tmt d) M_68 [] 4 (54, [some (.ref 33), some (.int x1)], [], σ)).trans rfl
set_option maxRecDepth 20000 in
theorem q_68_2167 (G : Nat × (Nat → Int32)) (d : Nat) (x1 : Int32) (σ : aH) : Lq G d M_68 (57, [some (.ref 33), some (.int x1)], [], σ) = Lq G d M_68 (60, [some (.ref 33), some (.int x1)], [.int (32 : Int32), .int x1], σ) :=
  (aUn_eq (tkd G.1 G.2) tmi (aRun (tkd G.1 G.2) tmi tmt d) M_68 [] 2 (57, [some (.ref 33), some (.int x1)], [], σ)).trans rfl
set_option maxRecDepth 20000 in
theorem q_68_2168 (G : Nat × (Nat → Int32)) (d : Nat) (x1 : Int32) (s0 : Int32) (s1 : Int32) (σ : aH) : Lq G d M_68 (60, [some (.ref 33), some (.int x1)], [.int s0, .int s1], σ) = if s1 = s0 then Lq G d M_68 (63, [some (.ref 33), some (.int x1)], [], σ) else Lq G d M_68 (70, [some (.ref 33), some (.int x1)], [], σ) :=
  (aUn_eq (tkd G.1 G.2) tmi (aRun (tkd G.1 G.2) tmi tmt d) M_68 [] 1 (60, [some (.ref 33), some (.int x1)], [.int s0, .int s1], σ)).trans rfl
set_option maxRecDepth 20000 in
theorem q_68_2169 (G : Nat × (Nat → Int32)) (d : Nat) (x1 : Int32) (σ : aH) : Lq G d M_68 (63, [some (.ref 33), some (.int x1)], [], σ) = Lq G d M_68 (64, [some (.ref 33), some (.int x1)], [.ref 33], σ) :=
  (aUn_eq (tkd G.1 G.2) tmi (aRun (tkd G.1 G.2) tmi tmt d) M_68 [] 1 (63, [some (.ref 33), some (.int x1)], [], σ)).trans rfl
set_option maxRecDepth 20000 in
theorem q_68_2170 (G : Nat × (Nat → Int32)) (d : Nat) (x1 : Int32) (σ : aH) : Lq G d M_68 (64, [some (.ref 33), some (.int x1)], [.ref 33], σ) = aCV (Rn G d 82 [.ref 33] σ) fun σ1 => Lq G d M_68 (67, [some (.ref 33), some (.int x1)], [], σ1) :=
  (aUn_eq (tkd G.1 G.2) tmi (aRun (tkd G.1 G.2) tmi tmt d) M_68 [] 1 (64, [some (.ref 33), some (.int x1)], [.ref 33], σ)).trans rfl
set_option maxRecDepth 20000 in
theorem q_68_2171 (G : Nat × (Nat → Int32)) (d : Nat) (x1 : Int32) (σ : aH) : Lq G d M_68 (67, [some (.ref 33), some (.int x1)], [], σ) = Lq G d M_68 (79, [some (.ref 33), some (.int x1)], [.int (59 : Int32), .ref 33, .ref 33], σ) :=
  (aUn_eq (tkd G.1 G.2) tmi (aRun (tkd G.1 G.2) tmi tmt d) M_68 [] 4 (67, [some (.ref 33), some (.int x1)], [], σ)).trans rfl
set_option maxRecDepth 20000 in
theorem q_68_2172 (G : Nat × (Nat → Int32)) (d : Nat) (x1 : Int32) (σ : aH) : Lq G d M_68 (70, [some (.ref 33), some (.int x1)], [], σ) = Lq G d M_68 (72, [some (.ref 33), some (.int x1)], [.int (1 : Int32), .ref 33], σ) :=
  (aUn_eq (tkd G.1 G.2) tmi (aRun (tkd G.1 G.2) tmi tmt d) M_68 [] 2 (70, [some (.ref 33), some (.int x1)], [], σ)).trans rfl
set_option maxRecDepth 20000 in
theorem q_68_2173 (G : Nat × (Nat → Int32)) (d : Nat) (x1 : Int32) (s0 : Int32) (σ : aH) : Lq G d M_68 (72, [some (.ref 33), some (.int x1)], [.int s0, .ref 33], σ) = aCV (Rn G d 73 [.ref 33, .int s0] σ) fun σ1 => Lq G d M_68 (75, [some (.ref 33), some (.int x1)], [], σ1) :=
  (aUn_eq (tkd G.1 G.2) tmi (aRun (tkd G.1 G.2) tmi tmt d) M_68 [] 1 (72, [some (.ref 33), some (.int x1)], [.int s0, .ref 33], σ)).trans rfl
set_option maxRecDepth 20000 in
theorem q_68_2174 (G : Nat × (Nat → Int32)) (d : Nat) (x1 : Int32) (σ : aH) : Lq G d M_68 (75, [some (.ref 33), some (.int x1)], [], σ) = Lq G d M_68 (79, [some (.ref 33), some (.int x1)], [.int (59 : Int32), .ref 33, .ref 33], σ) :=
  (aUn_eq (tkd G.1 G.2) tmi (aRun (tkd G.1 G.2) tmi tmt d) M_68 [] 3 (75, [some (.ref 33), some (.int x1)], [], σ)).trans rfl
set_option maxRecDepth 20000 in
theorem q_96_2175 (G : Nat × (Nat → Int32)) (d : Nat)  (σ : aH) : Lq G d M_96 (0, [some (.ref 1), some (.ref 3), some (.ref 13), none, none], [], σ) = Lq G d M_96 (5, [some (.ref 1), some (.ref 3), some (.ref 13), some (.int (0 : Int32)), some (.int (0 : Int32))], [], σ) :=
  (aUn_eq (tkd G.1 G.2) tmi (aRun (tkd G.1 G.2) tmi tmt d) M_96 [] 4 (0, [some (.ref 1), some (.ref 3), some (.ref 13), none, none], [], σ)).trans rfl
set_option maxRecDepth 20000 in
theorem q_96_2176 (G : Nat × (Nat → Int32)) (d : Nat) (x3 : Int32) (x4 : Int32) (σ : aH) : Lq G d M_96 (5, [some (.ref 1), some (.ref 3), some (.ref 13), some (.int x3), some (.int x4)], [], σ) = Lq G d M_96 (10, [some (.ref 1), some (.ref 3), some (.ref 13), some (.int x3), some (.int x4)], [.int (700 : Int32), .int x4], σ) :=
  (aUn_eq (tkd G.1 G.2) tmi (aRun (tkd G.1 G.2) tmi tmt d) M_96 [] 2 (5, [some (.ref 1), some (.ref 3), some (.ref 13), some (.int x3), some (.int x4)], [], σ)).trans rfl
set_option maxRecDepth 20000 in
theorem q_96_2177 (G : Nat × (Nat → Int32)) (d : Nat) (x3 : Int32) (x4 : Int32) (s0 : Int32) (s1 : Int32) (σ : aH) : Lq G d M_96 (10, [some (.ref 1), some (.ref 3), some (.ref 13), some (.int x3), some (.int x4)], [.int s0, .int s1], σ) = if s0 ≤ s1 then Lq G d M_96 (88, [some (.ref 1), some (.ref 3), some (.ref 13), some (.int x3), some (.int x4)], [], σ) else Lq G d M_96 (13, [some (.ref 1), some (.ref 3), some (.ref 13), some (.int x3), some (.int x4)], [], σ) :=
  (aUn_eq (tkd G.1 G.2) tmi (aRun (tkd G.1 G.2) tmi tmt d) M_96 [] 1 (10, [some (.ref 1), some (.ref 3), some (.ref 13), some (.int x3), some (.int x4)], [.int s0, .int s1], σ)).trans rfl
set_option maxRecDepth 20000 in
theorem q_96_2178 (G : Nat × (Nat → Int32)) (d : Nat) (x3 : Int32) (x4 : Int32) (σ : aH) : Lq G d M_96 (88, [some (.ref 1), some (.ref 3), some (.ref 13), some (.int x3), some (.int x4)], [], σ) = Lq G d M_96 (89, [some (.ref 1), some (.ref 3), some (.ref 13), some (.int x3), some (.int x4)], [.int x3], σ) :=
  (aUn_eq (tkd G.1 G.2) tmi (aRun (tkd G.1 G.2) tmi tmt d) M_96 [] 1 (88, [some (.ref 1), some (.ref 3), some (.ref 13), some (.int x3), some (.int x4)], [], σ)).trans rfl
set_option maxRecDepth 20000 in
theorem q_96_2179 (G : Nat × (Nat → Int32)) (d : Nat) (x3 : Int32) (x4 : Int32) (s0 : Int32) (σ : aH) : Lq G d M_96 (89, [some (.ref 1), some (.ref 3), some (.ref 13), some (.int x3), some (.int x4)], [.int s0], σ) = some (.inl (some (.int s0)), σ) :=
  (aUn_eq (tkd G.1 G.2) tmi (aRun (tkd G.1 G.2) tmi tmt d) M_96 [] 1 (89, [some (.ref 1), some (.ref 3), some (.ref 13), some (.int x3), some (.int x4)], [.int s0], σ)).trans rfl
set_option maxRecDepth 20000 in
theorem q_96_2180 (G : Nat × (Nat → Int32)) (d : Nat) (x3 : Int32) (x4 : Int32) (σ : aH) : Lq G d M_96 (13, [some (.ref 1), some (.ref 3), some (.ref 13), some (.int x3), some (.int x4)], [], σ) = Lq G d M_96 (17, [some (.ref 1), some (.ref 3), some (.ref 13), some (.int x3), some (.int x4)], [.int (σ.1 1 2)], σ) :=
  (aUn_eq (tkd G.1 G.2) tmi (aRun (tkd G.1 G.2) tmi tmt d) M_96 [] 2 (13, [some (.ref 1), some (.ref 3), some (.ref 13), some (.int x3), some (.int x4)], [], σ)).trans rfl
set_option maxRecDepth 20000 in
theorem q_96_2181 (G : Nat × (Nat → Int32)) (d : Nat) (x3 : Int32) (x4 : Int32) (s0 : Int32) (σ : aH) : Lq G d M_96 (17, [some (.ref 1), some (.ref 3), some (.ref 13), some (.int x3), some (.int x4)], [.int s0], σ) = if s0 = 0 then Lq G d M_96 (20, [some (.ref 1), some (.ref 3), some (.ref 13), some (.int x3), some (.int x4)], [], σ) else Lq G d M_96 (88, [some (.ref 1), some (.ref 3), some (.ref 13), some (.int x3), some (.int x4)], [], σ) :=
  (aUn_eq (tkd G.1 G.2) tmi (aRun (tkd G.1 G.2) tmi tmt d) M_96 [] 1 (17, [some (.ref 1), some (.ref 3), some (.ref 13), some (.int x3), some (.int x4)], [.int s0], σ)).trans rfl
set_option maxRecDepth 20000 in
theorem q_96_2182 (G : Nat × (Nat → Int32)) (d : Nat) (x3 : Int32) (x4 : Int32) (σ : aH) : Lq G d M_96 (20, [some (.ref 1), some (.ref 3), some (.ref 13), some (.int x3), some (.int x4)], [], σ) = Lq G d M_96 (24, [some (.ref 1), some (.ref 3), some (.ref 13), some (.int x3), some (.int x4)], [.int (σ.1 1 4)], σ) :=
  (aUn_eq (tkd G.1 G.2) tmi (aRun (tkd G.1 G.2) tmi tmt d) M_96 [] 2 (20, [some (.ref 1), some (.ref 3), some (.ref 13), some (.int x3), some (.int x4)], [], σ)).trans rfl
set_option maxRecDepth 20000 in
theorem q_96_2183 (G : Nat × (Nat → Int32)) (d : Nat) (x3 : Int32) (x4 : Int32) (s0 : Int32) (σ : aH) : Lq G d M_96 (24, [some (.ref 1), some (.ref 3), some (.ref 13), some (.int x3), some (.int x4)], [.int s0], σ) = if s0 = 0 then Lq G d M_96 (88, [some (.ref 1), some (.ref 3), some (.ref 13), some (.int x3), some (.int x4)], [], σ) else Lq G d M_96 (27, [some (.ref 1), some (.ref 3), some (.ref 13), some (.int x3), some (.int x4)], [], σ) :=
  (aUn_eq (tkd G.1 G.2) tmi (aRun (tkd G.1 G.2) tmi tmt d) M_96 [] 1 (24, [some (.ref 1), some (.ref 3), some (.ref 13), some (.int x3), some (.int x4)], [.int s0], σ)).trans rfl
set_option maxRecDepth 20000 in
theorem q_96_2184 (G : Nat × (Nat → Int32)) (d : Nat) (x3 : Int32) (x4 : Int32) (σ : aH) : Lq G d M_96 (27, [some (.ref 1), some (.ref 3), some (.ref 13), some (.int x3), some (.int x4)], [], σ) = Lq G d M_96 (30, [some (.ref 1), some (.ref 3), some (.ref 13), some (.int x3), some (.int x4)], [.ref 116, .ref 1], σ) :=
  (aUn_eq (tkd G.1 G.2) tmi (aRun (tkd G.1 G.2) tmi tmt d) M_96 [] 2 (27, [some (.ref 1), some (.ref 3), some (.ref 13), some (.int x3), some (.int x4)], [], σ)).trans rfl
set_option maxRecDepth 20000 in
theorem q_96_2185 (G : Nat × (Nat → Int32)) (d : Nat) (x3 : Int32) (x4 : Int32) (σ : aH) : Lq G d M_96 (30, [some (.ref 1), some (.ref 3), some (.ref 13), some (.int x3), some (.int x4)], [.ref 116, .ref 1], σ) = aCI (Rn G d 48 [.ref 1, .ref 116] σ) fun v2 σ1 => Lq G d M_96 (33, [some (.ref 1), some (.ref 3), some (.ref 13), some (.int x3), some (.int x4)], [.int v2], σ1) :=
  (aUn_eq (tkd G.1 G.2) tmi (aRun (tkd G.1 G.2) tmi tmt d) M_96 [] 1 (30, [some (.ref 1), some (.ref 3), some (.ref 13), some (.int x3), some (.int x4)], [.ref 116, .ref 1], σ)).trans rfl
set_option maxRecDepth 20000 in
theorem q_96_2186 (G : Nat × (Nat → Int32)) (d : Nat) (x3 : Int32) (x4 : Int32) (s0 : Int32) (σ : aH) : Lq G d M_96 (33, [some (.ref 1), some (.ref 3), some (.ref 13), some (.int x3), some (.int x4)], [.int s0], σ) = if s0 = 0 then Lq G d M_96 (36, [some (.ref 1), some (.ref 3), some (.ref 13), some (.int x3), some (.int x4)], [], σ) else Lq G d M_96 (44, [some (.ref 1), some (.ref 3), some (.ref 13), some (.int x3), some (.int x4)], [], σ) :=
  (aUn_eq (tkd G.1 G.2) tmi (aRun (tkd G.1 G.2) tmi tmt d) M_96 [] 1 (33, [some (.ref 1), some (.ref 3), some (.ref 13), some (.int x3), some (.int x4)], [.int s0], σ)).trans rfl
set_option maxRecDepth 20000 in
theorem q_96_2187 (G : Nat × (Nat → Int32)) (d : Nat) (x3 : Int32) (x4 : Int32) (σ : aH) : Lq G d M_96 (36, [some (.ref 1), some (.ref 3), some (.ref 13), some (.int x3), some (.int x4)], [], σ) = Lq G d M_96 (38, [some (.ref 1), some (.ref 3), some (.ref 13), some (.int x3), some (.int x4)], [.int (1 : Int32), .ref 1], σ) :=
  (aUn_eq (tkd G.1 G.2) tmi (aRun (tkd G.1 G.2) tmi tmt d) M_96 [] 2 (36, [some (.ref 1), some (.ref 3), some (.ref 13), some (.int x3), some (.int x4)], [], σ)).trans rfl
set_option maxRecDepth 20000 in
theorem q_96_2188 (G : Nat × (Nat → Int32)) (d : Nat) (x3 : Int32) (x4 : Int32) (s0 : Int32) (σ : aH) : Lq G d M_96 (38, [some (.ref 1), some (.ref 3), some (.ref 13), some (.int x3), some (.int x4)], [.int s0, .ref 1], σ) = aCV (Rn G d 30 [.ref 1, .int s0] σ) fun σ1 => Lq G d M_96 (41, [some (.ref 1), some (.ref 3), some (.ref 13), some (.int x3), some (.int x4)], [], σ1) :=
  (aUn_eq (tkd G.1 G.2) tmi (aRun (tkd G.1 G.2) tmi tmt d) M_96 [] 1 (38, [some (.ref 1), some (.ref 3), some (.ref 13), some (.int x3), some (.int x4)], [.int s0, .ref 1], σ)).trans rfl
set_option maxRecDepth 20000 in
theorem q_96_2189 (G : Nat × (Nat → Int32)) (d : Nat) (x3 : Int32) (x4 : Int32) (σ : aH) : Lq G d M_96 (41, [some (.ref 1), some (.ref 3), some (.ref 13), some (.int x3), some (.int x4)], [], σ) = Lq G d M_96 (5, [some (.ref 1), some (.ref 3), some (.ref 13), some (.int x3), some (.int (x4 + (1 : Int32)))], [], σ) :=
  (aUn_eq (tkd G.1 G.2) tmi (aRun (tkd G.1 G.2) tmi tmt d) M_96 [] 3 (41, [some (.ref 1), some (.ref 3), some (.ref 13), some (.int x3), some (.int x4)], [], σ)).trans rfl
set_option maxRecDepth 20000 in
theorem q_96_2190 (G : Nat × (Nat → Int32)) (d : Nat) (x3 : Int32) (x4 : Int32) (σ : aH) : Lq G d M_96 (44, [some (.ref 1), some (.ref 3), some (.ref 13), some (.int x3), some (.int x4)], [], σ) = Lq G d M_96 (52, [some (.ref 1), some (.ref 3), some (.ref 13), some (.int x3), some (.int x4)], [.int (60 : Int32), .int ((σ.1 13 1) + x3)], σ) :=
  (aUn_eq (tkd G.1 G.2) tmi (aRun (tkd G.1 G.2) tmi tmt d) M_96 [] 5 (44, [some (.ref 1), some (.ref 3), some (.ref 13), some (.int x3), some (.int x4)], [], σ)).trans rfl
set_option maxRecDepth 20000 in
theorem q_96_2191 (G : Nat × (Nat → Int32)) (d : Nat) (x3 : Int32) (x4 : Int32) (s0 : Int32) (s1 : Int32) (σ : aH) : Lq G d M_96 (52, [some (.ref 1), some (.ref 3), some (.ref 13), some (.int x3), some (.int x4)], [.int s0, .int s1], σ) = if s1 < s0 then Lq G d M_96 (63, [some (.ref 1), some (.ref 3), some (.ref 13), some (.int x3), some (.int x4)], [], σ) else Lq G d M_96 (55, [some (.ref 1), some (.ref 3), some (.ref 13), some (.int x3), some (.int x4)], [], σ) :=
  (aUn_eq (tkd G.1 G.2) tmi (aRun (tkd G.1 G.2) tmi tmt d) M_96 [] 1 (52, [some (.ref 1), some (.ref 3), some (.ref 13), some (.int x3), some (.int x4)], [.int s0, .int s1], σ)).trans rfl
set_option maxRecDepth 20000 in
theorem q_96_2192 (G : Nat × (Nat → Int32)) (d : Nat) (x3 : Int32) (x4 : Int32) (σ : aH) : Lq G d M_96 (63, [some (.ref 1), some (.ref 3), some (.ref 13), some (.int x3), some (.int x4)], [], σ) = Lq G d M_96 (64, [some (.ref 1), some (.ref 3), some (.ref 13), some (.int x3), some (.int x4)], [.ref 1], σ) :=
  (aUn_eq (tkd G.1 G.2) tmi (aRun (tkd G.1 G.2) tmi tmt d) M_96 [] 1 (63, [some (.ref 1), some (.ref 3), some (.ref 13), some (.int x3), some (.int x4)], [], σ)).trans rfl
set_option maxRecDepth 20000 in
theorem q_96_2193 (G : Nat × (Nat → Int32)) (d : Nat) (x3 : Int32) (x4 : Int32) (σ : aH) : Lq G d M_96 (64, [some (.ref 1), some (.ref 3), some (.ref 13), some (.int x3), some (.int x4)], [.ref 1], σ) = aCV (Rn G d 8 [.ref 1] σ) fun σ1 => Lq G d M_96 (67, [some (.ref 1), some (.ref 3), some (.ref 13), some (.int x3), some (.int x4)], [], σ1) :=
  (aUn_eq (tkd G.1 G.2) tmi (aRun (tkd G.1 G.2) tmi tmt d) M_96 [] 1 (64, [some (.ref 1), some (.ref 3), some (.ref 13), some (.int x3), some (.int x4)], [.ref 1], σ)).trans rfl
set_option maxRecDepth 20000 in
theorem q_96_2194 (G : Nat × (Nat → Int32)) (d : Nat) (x3 : Int32) (x4 : Int32) (σ : aH) : Lq G d M_96 (67, [some (.ref 1), some (.ref 3), some (.ref 13), some (.int x3), some (.int x4)], [], σ) = Lq G d M_96 (76, [some (.ref 1), some (.ref 3), some (.ref 13), some (.int x3), some (.int x4)], [.int ((σ.1 13 1) + x3), .ref 13, .ref 3, .ref 1], σ) :=
  (aUn_eq (tkd G.1 G.2) tmi (aRun (tkd G.1 G.2) tmi tmt d) M_96 [] 7 (67, [some (.ref 1), some (.ref 3), some (.ref 13), some (.int x3), some (.int x4)], [], σ)).trans rfl
set_option maxRecDepth 20000 in
theorem q_96_2195 (G : Nat × (Nat → Int32)) (d : Nat) (x3 : Int32) (x4 : Int32) (s0 : Int32) (σ : aH) : Lq G d M_96 (76, [some (.ref 1), some (.ref 3), some (.ref 13), some (.int x3), some (.int x4)], [.int s0, .ref 13, .ref 3, .ref 1], σ) = aCV (Rn G d 97 [.ref 1, .ref 3, .ref 13, .int s0] σ) fun σ1 => Lq G d M_96 (79, [some (.ref 1), some (.ref 3), some (.ref 13), some (.int x3), some (.int x4)], [], σ1) :=
  (aUn_eq (tkd G.1 G.2) tmi (aRun (tkd G.1 G.2) tmi tmt d) M_96 [] 1 (76, [some (.ref 1), some (.ref 3), some (.ref 13), some (.int x3), some (.int x4)], [.int s0, .ref 13, .ref 3, .ref 1], σ)).trans rfl
set_option maxRecDepth 20000 in
theorem q_96_2196 (G : Nat × (Nat → Int32)) (d : Nat) (x3 : Int32) (x4 : Int32) (σ : aH) : Lq G d M_96 (79, [some (.ref 1), some (.ref 3), some (.ref 13), some (.int x3), some (.int x4)], [], σ) = Lq G d M_96 (85, [some (.ref 1), some (.ref 3), some (.ref 13), some (.int (x3 + (1 : Int32))), some (.int (x4 + (1 : Int32)))], [], σ) :=
  (aUn_eq (tkd G.1 G.2) tmi (aRun (tkd G.1 G.2) tmi tmt d) M_96 [] 2 (79, [some (.ref 1), some (.ref 3), some (.ref 13), some (.int x3), some (.int x4)], [], σ)).trans rfl
set_option maxRecDepth 20000 in
theorem q_96_2197 (G : Nat × (Nat → Int32)) (d : Nat) (x3 : Int32) (x4 : Int32) (σ : aH) : Lq G d M_96 (85, [some (.ref 1), some (.ref 3), some (.ref 13), some (.int x3), some (.int x4)], [], σ) = Lq G d M_96 (5, [some (.ref 1), some (.ref 3), some (.ref 13), some (.int x3), some (.int x4)], [], σ) :=
  (aUn_eq (tkd G.1 G.2) tmi (aRun (tkd G.1 G.2) tmi tmt d) M_96 [] 1 (85, [some (.ref 1), some (.ref 3), some (.ref 13), some (.int x3), some (.int x4)], [], σ)).trans rfl
set_option maxRecDepth 20000 in
theorem q_96_2198 (G : Nat × (Nat → Int32)) (d : Nat) (x3 : Int32) (x4 : Int32) (σ : aH) : Lq G d M_96 (55, [some (.ref 1), some (.ref 3), some (.ref 13), some (.int x3), some (.int x4)], [], σ) = Lq G d M_96 (57, [some (.ref 1), some (.ref 3), some (.ref 13), some (.int x3), some (.int x4)], [.int (2 : Int32), .ref 1], σ) :=
  (aUn_eq (tkd G.1 G.2) tmi (aRun (tkd G.1 G.2) tmi tmt d) M_96 [] 2 (55, [some (.ref 1), some (.ref 3), some (.ref 13), some (.int x3), some (.int x4)], [], σ)).trans rfl
set_option maxRecDepth 20000 in
theorem q_96_2199 (G : Nat × (Nat → Int32)) (d : Nat) (x3 : Int32) (x4 : Int32) (s0 : Int32) (σ : aH) : Lq G d M_96 (57, [some (.ref 1), some (.ref 3), some (.ref 13), some (.int x3), some (.int x4)], [.int s0, .ref 1], σ) = aCV (Rn G d 30 [.ref 1, .int s0] σ) fun σ1 => Lq G d M_96 (60, [some (.ref 1), some (.ref 3), some (.ref 13), some (.int x3), some (.int x4)], [], σ1) :=
  (aUn_eq (tkd G.1 G.2) tmi (aRun (tkd G.1 G.2) tmi tmt d) M_96 [] 1 (57, [some (.ref 1), some (.ref 3), some (.ref 13), some (.int x3), some (.int x4)], [.int s0, .ref 1], σ)).trans rfl
set_option maxRecDepth 20000 in
theorem q_96_2200 (G : Nat × (Nat → Int32)) (d : Nat) (x3 : Int32) (x4 : Int32) (σ : aH) : Lq G d M_96 (60, [some (.ref 1), some (.ref 3), some (.ref 13), some (.int x3), some (.int x4)], [], σ) = Lq G d M_96 (5, [some (.ref 1), some (.ref 3), some (.ref 13), some (.int x3), some (.int (x4 + (1 : Int32)))], [], σ) :=
  (aUn_eq (tkd G.1 G.2) tmi (aRun (tkd G.1 G.2) tmi tmt d) M_96 [] 3 (60, [some (.ref 1), some (.ref 3), some (.ref 13), some (.int x3), some (.int x4)], [], σ)).trans rfl
set_option maxRecDepth 20000 in
theorem q_107_2201 (G : Nat × (Nat → Int32)) (d : Nat) (x1 : Int32) (σ : aH) : Lq G d M_107 (0, [some (.ref 33), some (.int x1), none, none], [], σ) = Lq G d M_107 (1, [some (.ref 33), some (.int x1), none, none], [.ref 33], σ) :=
  (aUn_eq (tkd G.1 G.2) tmi (aRun (tkd G.1 G.2) tmi tmt d) M_107 [] 1 (0, [some (.ref 33), some (.int x1), none, none], [], σ)).trans rfl
set_option maxRecDepth 20000 in
theorem q_107_2202 (G : Nat × (Nat → Int32)) (d : Nat) (x1 : Int32) (σ : aH) : Lq G d M_107 (1, [some (.ref 33), some (.int x1), none, none], [.ref 33], σ) = aCI (Rn G d 69 [.ref 33] σ) fun v2 σ1 => Lq G d M_107 (4, [some (.ref 33), some (.int x1), none, none], [.int v2], σ1) :=
  (aUn_eq (tkd G.1 G.2) tmi (aRun (tkd G.1 G.2) tmi tmt d) M_107 [] 1 (1, [some (.ref 33), some (.int x1), none, none], [.ref 33], σ)).trans rfl
set_option maxRecDepth 20000 in
theorem q_107_2203 (G : Nat × (Nat → Int32)) (d : Nat) (x1 : Int32) (s0 : Int32) (σ : aH) : Lq G d M_107 (4, [some (.ref 33), some (.int x1), none, none], [.int s0], σ) = Lq G d M_107 (6, [some (.ref 33), some (.int x1), none, none], [.int (36 : Int32), .int s0], σ) :=
  (aUn_eq (tkd G.1 G.2) tmi (aRun (tkd G.1 G.2) tmi tmt d) M_107 [] 1 (4, [some (.ref 33), some (.int x1), none, none], [.int s0], σ)).trans rfl
set_option maxRecDepth 20000 in
theorem q_107_2204 (G : Nat × (Nat → Int32)) (d : Nat) (x1 : Int32) (s0 : Int32) (s1 : Int32) (σ : aH) : Lq G d M_107 (6, [some (.ref 33), some (.int x1), none, none], [.int s0, .int s1], σ) = if s1 = s0 then Lq G d M_107 (14, [some (.ref 33), some (.int x1), none, none], [], σ) else Lq G d M_107 (9, [some (.ref 33), some (.int x1), none, none], [], σ) :=
  (aUn_eq (tkd G.1 G.2) tmi (aRun (tkd G.1 G.2) tmi tmt d) M_107 [] 1 (6, [some (.ref 33), some (.int x1), none, none], [.int s0, .int s1], σ)).trans rfl
set_option maxRecDepth 20000 in
theorem q_107_2205 (G : Nat × (Nat → Int32)) (d : Nat) (x1 : Int32) (σ : aH) : Lq G d M_107 (14, [some (.ref 33), some (.int x1), none, none], [], σ) = Lq G d M_107 (17, [some (.ref 33), some (.int x1), none, none], [.int (60 : Int32), .int x1], σ) :=
  (aUn_eq (tkd G.1 G.2) tmi (aRun (tkd G.1 G.2) tmi tmt d) M_107 [] 2 (14, [some (.ref 33), some (.int x1), none, none], [], σ)).trans rfl
set_option maxRecDepth 20000 in
theorem q_107_2206 (G : Nat × (Nat → Int32)) (d : Nat) (x1 : Int32) (s0 : Int32) (s1 : Int32) (σ : aH) : Lq G d M_107 (17, [some (.ref 33), some (.int x1), none, none], [.int s0, .int s1], σ) = if s1 = s0 then Lq G d M_107 (20, [some (.ref 33), some (.int x1), none, none], [], σ) else Lq G d M_107 (25, [some (.ref 33), some (.int x1), none, none], [], σ) :=
  (aUn_eq (tkd G.1 G.2) tmi (aRun (tkd G.1 G.2) tmi tmt d) M_107 [] 1 (17, [some (.ref 33), some (.int x1), none, none], [.int s0, .int s1], σ)).trans rfl
set_option maxRecDepth 20000 in
theorem q_107_2207 (G : Nat × (Nat → Int32)) (d : Nat) (x1 : Int32) (σ : aH) : Lq G d M_107 (20, [some (.ref 33), some (.int x1), none, none], [], σ) = Lq G d M_107 (22, [some (.ref 33), some (.int x1), none, none], [.int (2 : Int32), .ref 33], σ) :=
  (aUn_eq (tkd G.1 G.2) tmi (aRun (tkd G.1 G.2) tmi tmt d) M_107 [] 2 (20, [some (.ref 33), some (.int x1), none, none], [], σ)).trans rfl
set_option maxRecDepth 20000 in
theorem q_107_2208 (G : Nat × (Nat → Int32)) (d : Nat) (x1 : Int32) (s0 : Int32) (σ : aH) : Lq G d M_107 (22, [some (.ref 33), some (.int x1), none, none], [.int s0, .ref 33], σ) = aCV (Rn G d 73 [.ref 33, .int s0] σ) fun σ1 => Lq G d M_107 (25, [some (.ref 33), some (.int x1), none, none], [], σ1) :=
  (aUn_eq (tkd G.1 G.2) tmi (aRun (tkd G.1 G.2) tmi tmt d) M_107 [] 1 (22, [some (.ref 33), some (.int x1), none, none], [.int s0, .ref 33], σ)).trans rfl
set_option maxRecDepth 20000 in
theorem q_107_2209 (G : Nat × (Nat → Int32)) (d : Nat) (x1 : Int32) (σ : aH) : Lq G d M_107 (25, [some (.ref 33), some (.int x1), none, none], [], σ) = Lq G d M_107 (26, [some (.ref 33), some (.int x1), none, none], [.ref 33], σ) :=
  (aUn_eq (tkd G.1 G.2) tmi (aRun (tkd G.1 G.2) tmi tmt d) M_107 [] 1 (25, [some (.ref 33), some (.int x1), none, none], [], σ)).trans rfl
set_option maxRecDepth 20000 in
theorem q_107_2210 (G : Nat × (Nat → Int32)) (d : Nat) (x1 : Int32) (σ : aH) : Lq G d M_107 (26, [some (.ref 33), some (.int x1), none, none], [.ref 33], σ) = aCI (Rn G d 67 [.ref 33] σ) fun v2 σ1 => Lq G d M_107 (29, [some (.ref 33), some (.int x1), none, none], [.int v2], σ1) :=
  (aUn_eq (tkd G.1 G.2) tmi (aRun (tkd G.1 G.2) tmi tmt d) M_107 [] 1 (26, [some (.ref 33), some (.int x1), none, none], [.ref 33], σ)).trans rfl
set_option maxRecDepth 20000 in
theorem q_107_2211 (G : Nat × (Nat → Int32)) (d : Nat) (x1 : Int32) (s0 : Int32) (σ : aH) : Lq G d M_107 (29, [some (.ref 33), some (.int x1), none, none], [.int s0], σ) = if s0 = 0 then Lq G d M_107 (32, [some (.ref 33), some (.int x1), none, none], [], σ) else Lq G d M_107 (33, [some (.ref 33), some (.int x1), none, none], [], σ) :=
  (aUn_eq (tkd G.1 G.2) tmi (aRun (tkd G.1 G.2) tmi tmt d) M_107 [] 1 (29, [some (.ref 33), some (.int x1), none, none], [.int s0], σ)).trans rfl
set_option maxRecDepth 20000 in
theorem q_107_2212 (G : Nat × (Nat → Int32)) (d : Nat) (x1 : Int32) (σ : aH) : Lq G d M_107 (32, [some (.ref 33), some (.int x1), none, none], [], σ) = some (.inl none, σ) :=
  (aUn_eq (tkd G.1 G.2) tmi (aRun (tkd G.1 G.2) tmi tmt d) M_107 [] 1 (32, [some (.ref 33), some (.int x1), none, none], [], σ)).trans rfl
set_option maxRecDepth 20000 in
theorem q_107_2213 (G : Nat × (Nat → Int32)) (d : Nat) (x1 : Int32) (σ : aH) : Lq G d M_107 (33, [some (.ref 33), some (.int x1), none, none], [], σ) = Lq G d M_107 (34, [some (.ref 33), some (.int x1), none, none], [.ref 33], σ) :=
  (aUn_eq (tkd G.1 G.2) tmi (aRun (tkd G.1 G.2) tmi tmt d) M_107 [] 1 (33, [some (.ref 33), some (.int x1), none, none], [], σ)).trans rfl
set_option maxRecDepth 20000 in
theorem q_107_2214 (G : Nat × (Nat → Int32)) (d : Nat) (x1 : Int32) (σ : aH) : Lq G d M_107 (34, [some (.ref 33), some (.int x1), none, none], [.ref 33], σ) = aCV (Rn G d 63 [.ref 33] σ) fun σ1 => Lq G d M_107 (37, [some (.ref 33), some (.int x1), none, none], [], σ1) :=
  (aUn_eq (tkd G.1 G.2) tmi (aRun (tkd G.1 G.2) tmi tmt d) M_107 [] 1 (34, [some (.ref 33), some (.int x1), none, none], [.ref 33], σ)).trans rfl
set_option maxRecDepth 20000 in
theorem q_107_2215 (G : Nat × (Nat → Int32)) (d : Nat) (x1 : Int32) (σ : aH) : Lq G d M_107 (37, [some (.ref 33), some (.int x1), none, none], [], σ) = Lq G d M_107 (39, [some (.ref 33), some (.int x1), some (.int (0 : Int32)), none], [], σ) :=
  (aUn_eq (tkd G.1 G.2) tmi (aRun (tkd G.1 G.2) tmi tmt d) M_107 [] 2 (37, [some (.ref 33), some (.int x1), none, none], [], σ)).trans rfl
set_option maxRecDepth 20000 in
theorem q_107_2216 (G : Nat × (Nat → Int32)) (d : Nat) (x1 : Int32) (σ : aH) : Lq G d M_107 (9, [some (.ref 33), some (.int x1), none, none], [], σ) = Lq G d M_107 (11, [some (.ref 33), some (.int x1), none, none], [.int (1 : Int32), .ref 33], σ) :=
  (aUn_eq (tkd G.1 G.2) tmi (aRun (tkd G.1 G.2) tmi tmt d) M_107 [] 2 (9, [some (.ref 33), some (.int x1), none, none], [], σ)).trans rfl
set_option maxRecDepth 20000 in
theorem q_107_2217 (G : Nat × (Nat → Int32)) (d : Nat) (x1 : Int32) (s0 : Int32) (σ : aH) : Lq G d M_107 (11, [some (.ref 33), some (.int x1), none, none], [.int s0, .ref 33], σ) = aCV (Rn G d 73 [.ref 33, .int s0] σ) fun σ1 => Lq G d M_107 (14, [some (.ref 33), some (.int x1), none, none], [], σ1) :=
  (aUn_eq (tkd G.1 G.2) tmi (aRun (tkd G.1 G.2) tmi tmt d) M_107 [] 1 (11, [some (.ref 33), some (.int x1), none, none], [.int s0, .ref 33], σ)).trans rfl
set_option maxRecDepth 20000 in
theorem q_107_2218 (G : Nat × (Nat → Int32)) (d : Nat) (x1 : Int32) (x2 : Int32) (σ : aH) : Lq G d M_107 (39, [some (.ref 33), some (.int x1), some (.int x2), none], [], σ) = Lq G d M_107 (42, [some (.ref 33), some (.int x1), some (.int x2), none], [.int (17 : Int32), .int x2], σ) :=
  (aUn_eq (tkd G.1 G.2) tmi (aRun (tkd G.1 G.2) tmi tmt d) M_107 [] 2 (39, [some (.ref 33), some (.int x1), some (.int x2), none], [], σ)).trans rfl
set_option maxRecDepth 20000 in
theorem q_107_2219 (G : Nat × (Nat → Int32)) (d : Nat) (x1 : Int32) (x2 : Int32) (s0 : Int32) (s1 : Int32) (σ : aH) : Lq G d M_107 (42, [some (.ref 33), some (.int x1), some (.int x2), none], [.int s0, .int s1], σ) = if s0 ≤ s1 then Lq G d M_107 (63, [some (.ref 33), some (.int x1), some (.int x2), none], [], σ) else Lq G d M_107 (45, [some (.ref 33), some (.int x1), some (.int x2), none], [], σ) :=
  (aUn_eq (tkd G.1 G.2) tmi (aRun (tkd G.1 G.2) tmi tmt d) M_107 [] 1 (42, [some (.ref 33), some (.int x1), some (.int x2), none], [.int s0, .int s1], σ)).trans rfl
set_option maxRecDepth 20000 in
theorem q_107_2220 (G : Nat × (Nat → Int32)) (d : Nat) (x1 : Int32) (x2 : Int32) (σ : aH) : Lq G d M_107 (63, [some (.ref 33), some (.int x1), some (.int x2), none], [], σ) = Lq G d M_107 (69, [some (.ref 33), some (.int x1), some (.int x2), none], [.int (0 : Int32), .int x1, .ref 54], σ) :=
  (aUn_eq (tkd G.1 G.2) tmi (aRun (tkd G.1 G.2) tmi tmt d) M_107 [] 4 (63, [some (.ref 33), some (.int x1), some (.int x2), none], [], σ)).trans rfl
set_option maxRecDepth 20000 in
theorem q_107_2221 (G : Nat × (Nat → Int32)) (d : Nat) (x1 : Int32) (x2 : Int32) (s0 : Int32) (s1 : Int32) (σ : aH) : Lq G d M_107 (69, [some (.ref 33), some (.int x1), some (.int x2), none], [.int s0, .int s1, .ref 54], σ) = aIx (s1) 60 fun j1 => Lq G d M_107 (70, [some (.ref 33), some (.int x1), some (.int x2), none], [], (aSI σ 54 j1 (vp_nar .boolean s0))) :=
  (aUn_eq (tkd G.1 G.2) tmi (aRun (tkd G.1 G.2) tmi tmt d) M_107 [] 1 (69, [some (.ref 33), some (.int x1), some (.int x2), none], [.int s0, .int s1, .ref 54], σ)).trans rfl
set_option maxRecDepth 20000 in
theorem q_107_2222 (G : Nat × (Nat → Int32)) (d : Nat) (x1 : Int32) (x2 : Int32) (σ : aH) : Lq G d M_107 (70, [some (.ref 33), some (.int x1), some (.int x2), none], [], σ) = Lq G d M_107 (76, [some (.ref 33), some (.int x1), some (.int x2), none], [.int (0 : Int32), .int x1, .ref 53], σ) :=
  (aUn_eq (tkd G.1 G.2) tmi (aRun (tkd G.1 G.2) tmi tmt d) M_107 [] 4 (70, [some (.ref 33), some (.int x1), some (.int x2), none], [], σ)).trans rfl
set_option maxRecDepth 20000 in
theorem q_107_2223 (G : Nat × (Nat → Int32)) (d : Nat) (x1 : Int32) (x2 : Int32) (s0 : Int32) (s1 : Int32) (σ : aH) : Lq G d M_107 (76, [some (.ref 33), some (.int x1), some (.int x2), none], [.int s0, .int s1, .ref 53], σ) = aIx (s1) 60 fun j1 => Lq G d M_107 (77, [some (.ref 33), some (.int x1), some (.int x2), none], [], (aSI σ 53 j1 s0)) :=
  (aUn_eq (tkd G.1 G.2) tmi (aRun (tkd G.1 G.2) tmi tmt d) M_107 [] 1 (76, [some (.ref 33), some (.int x1), some (.int x2), none], [.int s0, .int s1, .ref 53], σ)).trans rfl
set_option maxRecDepth 20000 in
theorem q_107_2224 (G : Nat × (Nat → Int32)) (d : Nat) (x1 : Int32) (x2 : Int32) (σ : aH) : Lq G d M_107 (77, [some (.ref 33), some (.int x1), some (.int x2), none], [], σ) = Lq G d M_107 (93, [some (.ref 33), some (.int x1), some (.int x2), none], [.int (σ.1 33 1), .ref 33, .int (((17 : Int32) * x1) + (15 : Int32)), .ref 40], σ) :=
  (aUn_eq (tkd G.1 G.2) tmi (aRun (tkd G.1 G.2) tmi tmt d) M_107 [] 10 (77, [some (.ref 33), some (.int x1), some (.int x2), none], [], σ)).trans rfl
set_option maxRecDepth 20000 in
theorem q_107_2225 (G : Nat × (Nat → Int32)) (d : Nat) (x1 : Int32) (x2 : Int32) (s0 : Int32) (s2 : Int32) (σ : aH) : Lq G d M_107 (93, [some (.ref 33), some (.int x1), some (.int x2), none], [.int s0, .ref 33, .int s2, .ref 40], σ) = aCI (Rn G d 108 [.ref 33, .int s0] σ) fun v2 σ1 => Lq G d M_107 (96, [some (.ref 33), some (.int x1), some (.int x2), none], [.int v2, .int s2, .ref 40], σ1) :=
  (aUn_eq (tkd G.1 G.2) tmi (aRun (tkd G.1 G.2) tmi tmt d) M_107 [] 1 (93, [some (.ref 33), some (.int x1), some (.int x2), none], [.int s0, .ref 33, .int s2, .ref 40], σ)).trans rfl
set_option maxRecDepth 20000 in
theorem q_107_2226 (G : Nat × (Nat → Int32)) (d : Nat) (x1 : Int32) (x2 : Int32) (s0 : Int32) (s1 : Int32) (σ : aH) : Lq G d M_107 (96, [some (.ref 33), some (.int x1), some (.int x2), none], [.int s0, .int s1, .ref 40], σ) = aIx (s1) 1020 fun j1 => Lq G d M_107 (97, [some (.ref 33), some (.int x1), some (.int x2), none], [], (aSI σ 40 j1 s0)) :=
  (aUn_eq (tkd G.1 G.2) tmi (aRun (tkd G.1 G.2) tmi tmt d) M_107 [] 1 (96, [some (.ref 33), some (.int x1), some (.int x2), none], [.int s0, .int s1, .ref 40], σ)).trans rfl
set_option maxRecDepth 20000 in
theorem q_107_2227 (G : Nat × (Nat → Int32)) (d : Nat) (x1 : Int32) (x2 : Int32) (σ : aH) : Lq G d M_107 (97, [some (.ref 33), some (.int x1), some (.int x2), none], [], σ) = Lq G d M_107 (113, [some (.ref 33), some (.int x1), some (.int x2), none], [.int (σ.1 33 2), .ref 33, .int (((17 : Int32) * x1) + (16 : Int32)), .ref 40], σ) :=
  (aUn_eq (tkd G.1 G.2) tmi (aRun (tkd G.1 G.2) tmi tmt d) M_107 [] 10 (97, [some (.ref 33), some (.int x1), some (.int x2), none], [], σ)).trans rfl
set_option maxRecDepth 20000 in
theorem q_107_2228 (G : Nat × (Nat → Int32)) (d : Nat) (x1 : Int32) (x2 : Int32) (s0 : Int32) (s2 : Int32) (σ : aH) : Lq G d M_107 (113, [some (.ref 33), some (.int x1), some (.int x2), none], [.int s0, .ref 33, .int s2, .ref 40], σ) = aCI (Rn G d 108 [.ref 33, .int s0] σ) fun v2 σ1 => Lq G d M_107 (116, [some (.ref 33), some (.int x1), some (.int x2), none], [.int v2, .int s2, .ref 40], σ1) :=
  (aUn_eq (tkd G.1 G.2) tmi (aRun (tkd G.1 G.2) tmi tmt d) M_107 [] 1 (113, [some (.ref 33), some (.int x1), some (.int x2), none], [.int s0, .ref 33, .int s2, .ref 40], σ)).trans rfl
set_option maxRecDepth 20000 in
theorem q_107_2229 (G : Nat × (Nat → Int32)) (d : Nat) (x1 : Int32) (x2 : Int32) (s0 : Int32) (s1 : Int32) (σ : aH) : Lq G d M_107 (116, [some (.ref 33), some (.int x1), some (.int x2), none], [.int s0, .int s1, .ref 40], σ) = aIx (s1) 1020 fun j1 => Lq G d M_107 (117, [some (.ref 33), some (.int x1), some (.int x2), none], [], (aSI σ 40 j1 s0)) :=
  (aUn_eq (tkd G.1 G.2) tmi (aRun (tkd G.1 G.2) tmi tmt d) M_107 [] 1 (116, [some (.ref 33), some (.int x1), some (.int x2), none], [.int s0, .int s1, .ref 40], σ)).trans rfl
set_option maxRecDepth 20000 in
theorem q_107_2230 (G : Nat × (Nat → Int32)) (d : Nat) (x1 : Int32) (x2 : Int32) (σ : aH) : Lq G d M_107 (117, [some (.ref 33), some (.int x1), some (.int x2), none], [], σ) = Lq G d M_107 (119, [some (.ref 33), some (.int x1), some (.int (0 : Int32)), none], [], σ) :=
  (aUn_eq (tkd G.1 G.2) tmi (aRun (tkd G.1 G.2) tmi tmt d) M_107 [] 2 (117, [some (.ref 33), some (.int x1), some (.int x2), none], [], σ)).trans rfl
set_option maxRecDepth 20000 in
theorem q_107_2231 (G : Nat × (Nat → Int32)) (d : Nat) (x1 : Int32) (x2 : Int32) (σ : aH) : Lq G d M_107 (45, [some (.ref 33), some (.int x1), some (.int x2), none], [], σ) = Lq G d M_107 (56, [some (.ref 33), some (.int x1), some (.int x2), none], [.int (0 : Int32), .int (((17 : Int32) * x1) + x2), .ref 40], σ) :=
  (aUn_eq (tkd G.1 G.2) tmi (aRun (tkd G.1 G.2) tmi tmt d) M_107 [] 8 (45, [some (.ref 33), some (.int x1), some (.int x2), none], [], σ)).trans rfl
set_option maxRecDepth 20000 in
theorem q_107_2232 (G : Nat × (Nat → Int32)) (d : Nat) (x1 : Int32) (x2 : Int32) (s0 : Int32) (s1 : Int32) (σ : aH) : Lq G d M_107 (56, [some (.ref 33), some (.int x1), some (.int x2), none], [.int s0, .int s1, .ref 40], σ) = aIx (s1) 1020 fun j1 => Lq G d M_107 (57, [some (.ref 33), some (.int x1), some (.int x2), none], [], (aSI σ 40 j1 s0)) :=
  (aUn_eq (tkd G.1 G.2) tmi (aRun (tkd G.1 G.2) tmi tmt d) M_107 [] 1 (56, [some (.ref 33), some (.int x1), some (.int x2), none], [.int s0, .int s1, .ref 40], σ)).trans rfl
set_option maxRecDepth 20000 in
theorem q_107_2233 (G : Nat × (Nat → Int32)) (d : Nat) (x1 : Int32) (x2 : Int32) (σ : aH) : Lq G d M_107 (57, [some (.ref 33), some (.int x1), some (.int x2), none], [], σ) = Lq G d M_107 (39, [some (.ref 33), some (.int x1), some (.int (x2 + (1 : Int32))), none], [], σ) :=
  (aUn_eq (tkd G.1 G.2) tmi (aRun (tkd G.1 G.2) tmi tmt d) M_107 [] 2 (57, [some (.ref 33), some (.int x1), some (.int x2), none], [], σ)).trans rfl
set_option maxRecDepth 20000 in
theorem q_107_2234 (G : Nat × (Nat → Int32)) (d : Nat) (x1 : Int32) (x2 : Int32) (σ : aH) : Lq G d M_107 (119, [some (.ref 33), some (.int x1), some (.int x2), none], [], σ) = Lq G d M_107 (120, [some (.ref 33), some (.int x1), some (.int x2), none], [.ref 33], σ) :=
  (aUn_eq (tkd G.1 G.2) tmi (aRun (tkd G.1 G.2) tmi tmt d) M_107 [] 1 (119, [some (.ref 33), some (.int x1), some (.int x2), none], [], σ)).trans rfl
set_option maxRecDepth 20000 in
theorem q_107_2235 (G : Nat × (Nat → Int32)) (d : Nat) (x1 : Int32) (x2 : Int32) (σ : aH) : Lq G d M_107 (120, [some (.ref 33), some (.int x1), some (.int x2), none], [.ref 33], σ) = aCI (Rn G d 67 [.ref 33] σ) fun v2 σ1 => Lq G d M_107 (123, [some (.ref 33), some (.int x1), some (.int x2), none], [.int v2], σ1) :=
  (aUn_eq (tkd G.1 G.2) tmi (aRun (tkd G.1 G.2) tmi tmt d) M_107 [] 1 (120, [some (.ref 33), some (.int x1), some (.int x2), none], [.ref 33], σ)).trans rfl
set_option maxRecDepth 20000 in
theorem q_107_2236 (G : Nat × (Nat → Int32)) (d : Nat) (x1 : Int32) (x2 : Int32) (s0 : Int32) (σ : aH) : Lq G d M_107 (123, [some (.ref 33), some (.int x1), some (.int x2), none], [.int s0], σ) = if s0 = 0 then Lq G d M_107 (199, [some (.ref 33), some (.int x1), some (.int x2), none], [], σ) else Lq G d M_107 (126, [some (.ref 33), some (.int x1), some (.int x2), none], [], σ) :=
  (aUn_eq (tkd G.1 G.2) tmi (aRun (tkd G.1 G.2) tmi tmt d) M_107 [] 1 (123, [some (.ref 33), some (.int x1), some (.int x2), none], [.int s0], σ)).trans rfl
set_option maxRecDepth 20000 in
theorem q_107_2237 (G : Nat × (Nat → Int32)) (d : Nat) (x1 : Int32) (x2 : Int32) (σ : aH) : Lq G d M_107 (199, [some (.ref 33), some (.int x1), some (.int x2), none], [], σ) = Lq G d M_107 (201, [some (.ref 33), some (.int x1), some (.int x2), none], [.int (2 : Int32), .ref 33], σ) :=
  (aUn_eq (tkd G.1 G.2) tmi (aRun (tkd G.1 G.2) tmi tmt d) M_107 [] 2 (199, [some (.ref 33), some (.int x1), some (.int x2), none], [], σ)).trans rfl
set_option maxRecDepth 20000 in
theorem q_107_2238 (G : Nat × (Nat → Int32)) (d : Nat) (x1 : Int32) (x2 : Int32) (s0 : Int32) (σ : aH) : Lq G d M_107 (201, [some (.ref 33), some (.int x1), some (.int x2), none], [.int s0, .ref 33], σ) = aCI (Rn G d 79 [.ref 33, .int s0] σ) fun v2 σ1 => Lq G d M_107 (204, [some (.ref 33), some (.int x1), some (.int x2), none], [.int v2], σ1) :=
  (aUn_eq (tkd G.1 G.2) tmi (aRun (tkd G.1 G.2) tmi tmt d) M_107 [] 1 (201, [some (.ref 33), some (.int x1), some (.int x2), none], [.int s0, .ref 33], σ)).trans rfl
set_option maxRecDepth 20000 in
theorem q_107_2239 (G : Nat × (Nat → Int32)) (d : Nat) (x1 : Int32) (x2 : Int32) (s0 : Int32) (σ : aH) : Lq G d M_107 (204, [some (.ref 33), some (.int x1), some (.int x2), none], [.int s0], σ) = if s0 = 0 then Lq G d M_107 (226, [some (.ref 33), some (.int x1), some (.int x2), none], [], σ) else Lq G d M_107 (207, [some (.ref 33), some (.int x1), some (.int x2), none], [], σ) :=
  (aUn_eq (tkd G.1 G.2) tmi (aRun (tkd G.1 G.2) tmi tmt d) M_107 [] 1 (204, [some (.ref 33), some (.int x1), some (.int x2), none], [.int s0], σ)).trans rfl
set_option maxRecDepth 20000 in
theorem q_107_2240 (G : Nat × (Nat → Int32)) (d : Nat) (x1 : Int32) (x2 : Int32) (σ : aH) : Lq G d M_107 (226, [some (.ref 33), some (.int x1), some (.int x2), none], [], σ) = Lq G d M_107 (243, [some (.ref 33), some (.int x1), some (.int x2), none], [.int (0 : Int32), .int (100 : Int32), .int (0 : Int32), .int (3 : Int32), .ref 33, .int (((17 : Int32) * x1) + (13 : Int32)), .ref 40], σ) :=
  (aUn_eq (tkd G.1 G.2) tmi (aRun (tkd G.1 G.2) tmi tmt d) M_107 [] 12 (226, [some (.ref 33), some (.int x1), some (.int x2), none], [], σ)).trans rfl
set_option maxRecDepth 20000 in
theorem q_107_2241 (G : Nat × (Nat → Int32)) (d : Nat) (x1 : Int32) (x2 : Int32) (s0 : Int32) (s1 : Int32) (s2 : Int32) (s3 : Int32) (s5 : Int32) (σ : aH) : Lq G d M_107 (243, [some (.ref 33), some (.int x1), some (.int x2), none], [.int s0, .int s1, .int s2, .int s3, .ref 33, .int s5, .ref 40], σ) = aCI (Rn G d 77 [.ref 33, .int s3, .int s2, .int s1, .int s0] σ) fun v2 σ1 => Lq G d M_107 (246, [some (.ref 33), some (.int x1), some (.int x2), none], [.int v2, .int s5, .ref 40], σ1) :=
  (aUn_eq (tkd G.1 G.2) tmi (aRun (tkd G.1 G.2) tmi tmt d) M_107 [] 1 (243, [some (.ref 33), some (.int x1), some (.int x2), none], [.int s0, .int s1, .int s2, .int s3, .ref 33, .int s5, .ref 40], σ)).trans rfl
set_option maxRecDepth 20000 in
theorem q_107_2242 (G : Nat × (Nat → Int32)) (d : Nat) (x1 : Int32) (x2 : Int32) (s0 : Int32) (s1 : Int32) (σ : aH) : Lq G d M_107 (246, [some (.ref 33), some (.int x1), some (.int x2), none], [.int s0, .int s1, .ref 40], σ) = aIx (s1) 1020 fun j1 => Lq G d M_107 (247, [some (.ref 33), some (.int x1), some (.int x2), none], [], (aSI σ 40 j1 s0)) :=
  (aUn_eq (tkd G.1 G.2) tmi (aRun (tkd G.1 G.2) tmi tmt d) M_107 [] 1 (246, [some (.ref 33), some (.int x1), some (.int x2), none], [.int s0, .int s1, .ref 40], σ)).trans rfl
set_option maxRecDepth 20000 in
theorem q_107_2243 (G : Nat × (Nat → Int32)) (d : Nat) (x1 : Int32) (x2 : Int32) (σ : aH) : Lq G d M_107 (247, [some (.ref 33), some (.int x1), some (.int x2), none], [], σ) = Lq G d M_107 (265, [some (.ref 33), some (.int x1), some (.int x2), none], [.int (0 : Int32), .int (601 : Int32), .int (0 : Int32), .int (4 : Int32), .ref 33, .int (((17 : Int32) * x1) + (14 : Int32)), .ref 40], σ) :=
  (aUn_eq (tkd G.1 G.2) tmi (aRun (tkd G.1 G.2) tmi tmt d) M_107 [] 12 (247, [some (.ref 33), some (.int x1), some (.int x2), none], [], σ)).trans rfl
set_option maxRecDepth 20000 in
theorem q_107_2244 (G : Nat × (Nat → Int32)) (d : Nat) (x1 : Int32) (x2 : Int32) (s0 : Int32) (s1 : Int32) (s2 : Int32) (s3 : Int32) (s5 : Int32) (σ : aH) : Lq G d M_107 (265, [some (.ref 33), some (.int x1), some (.int x2), none], [.int s0, .int s1, .int s2, .int s3, .ref 33, .int s5, .ref 40], σ) = aCI (Rn G d 77 [.ref 33, .int s3, .int s2, .int s1, .int s0] σ) fun v2 σ1 => Lq G d M_107 (268, [some (.ref 33), some (.int x1), some (.int x2), none], [.int v2, .int s5, .ref 40], σ1) :=
  (aUn_eq (tkd G.1 G.2) tmi (aRun (tkd G.1 G.2) tmi tmt d) M_107 [] 1 (265, [some (.ref 33), some (.int x1), some (.int x2), none], [.int s0, .int s1, .int s2, .int s3, .ref 33, .int s5, .ref 40], σ)).trans rfl
set_option maxRecDepth 20000 in
theorem q_107_2245 (G : Nat × (Nat → Int32)) (d : Nat) (x1 : Int32) (x2 : Int32) (s0 : Int32) (s1 : Int32) (σ : aH) : Lq G d M_107 (268, [some (.ref 33), some (.int x1), some (.int x2), none], [.int s0, .int s1, .ref 40], σ) = aIx (s1) 1020 fun j1 => Lq G d M_107 (269, [some (.ref 33), some (.int x1), some (.int x2), none], [], (aSI σ 40 j1 s0)) :=
  (aUn_eq (tkd G.1 G.2) tmi (aRun (tkd G.1 G.2) tmi tmt d) M_107 [] 1 (268, [some (.ref 33), some (.int x1), some (.int x2), none], [.int s0, .int s1, .ref 40], σ)).trans rfl
set_option maxRecDepth 20000 in
theorem q_107_2246 (G : Nat × (Nat → Int32)) (d : Nat) (x1 : Int32) (x2 : Int32) (σ : aH) : Lq G d M_107 (269, [some (.ref 33), some (.int x1), some (.int x2), none], [], σ) = Lq G d M_107 (272, [some (.ref 33), some (.int x1), some (.int x2), none], [.int (38 : Int32), .ref 33], σ) :=
  (aUn_eq (tkd G.1 G.2) tmi (aRun (tkd G.1 G.2) tmi tmt d) M_107 [] 2 (269, [some (.ref 33), some (.int x1), some (.int x2), none], [], σ)).trans rfl
set_option maxRecDepth 20000 in
theorem q_107_2247 (G : Nat × (Nat → Int32)) (d : Nat) (x1 : Int32) (x2 : Int32) (s0 : Int32) (σ : aH) : Lq G d M_107 (272, [some (.ref 33), some (.int x1), some (.int x2), none], [.int s0, .ref 33], σ) = aCI (Rn G d 79 [.ref 33, .int s0] σ) fun v2 σ1 => Lq G d M_107 (275, [some (.ref 33), some (.int x1), some (.int x2), none], [.int v2], σ1) :=
  (aUn_eq (tkd G.1 G.2) tmi (aRun (tkd G.1 G.2) tmi tmt d) M_107 [] 1 (272, [some (.ref 33), some (.int x1), some (.int x2), none], [.int s0, .ref 33], σ)).trans rfl
set_option maxRecDepth 20000 in
theorem q_107_2248 (G : Nat × (Nat → Int32)) (d : Nat) (x1 : Int32) (x2 : Int32) (s0 : Int32) (σ : aH) : Lq G d M_107 (275, [some (.ref 33), some (.int x1), some (.int x2), none], [.int s0], σ) = if s0 = 0 then Lq G d M_107 (297, [some (.ref 33), some (.int x1), some (.int x2), none], [], σ) else Lq G d M_107 (278, [some (.ref 33), some (.int x1), some (.int x2), none], [], σ) :=
  (aUn_eq (tkd G.1 G.2) tmi (aRun (tkd G.1 G.2) tmi tmt d) M_107 [] 1 (275, [some (.ref 33), some (.int x1), some (.int x2), none], [.int s0], σ)).trans rfl
set_option maxRecDepth 20000 in
theorem q_107_2249 (G : Nat × (Nat → Int32)) (d : Nat) (x1 : Int32) (x2 : Int32) (σ : aH) : Lq G d M_107 (297, [some (.ref 33), some (.int x1), some (.int x2), none], [], σ) = Lq G d M_107 (301, [some (.ref 33), some (.int x1), some (.int x2), none], [.int (59 : Int32), .ref 33, .ref 33], σ) :=
  (aUn_eq (tkd G.1 G.2) tmi (aRun (tkd G.1 G.2) tmi tmt d) M_107 [] 3 (297, [some (.ref 33), some (.int x1), some (.int x2), none], [], σ)).trans rfl
set_option maxRecDepth 20000 in
theorem q_107_2250 (G : Nat × (Nat → Int32)) (d : Nat) (x1 : Int32) (x2 : Int32) (s0 : Int32) (σ : aH) : Lq G d M_107 (301, [some (.ref 33), some (.int x1), some (.int x2), none], [.int s0, .ref 33, .ref 33], σ) = aCI (Rn G d 85 [.ref 33, .int s0] σ) fun v2 σ1 => Lq G d M_107 (304, [some (.ref 33), some (.int x1), some (.int x2), none], [.int v2, .ref 33], σ1) :=
  (aUn_eq (tkd G.1 G.2) tmi (aRun (tkd G.1 G.2) tmi tmt d) M_107 [] 1 (301, [some (.ref 33), some (.int x1), some (.int x2), none], [.int s0, .ref 33, .ref 33], σ)).trans rfl
set_option maxRecDepth 20000 in
theorem q_107_2251 (G : Nat × (Nat → Int32)) (d : Nat) (x1 : Int32) (x2 : Int32) (s0 : Int32) (σ : aH) : Lq G d M_107 (304, [some (.ref 33), some (.int x1), some (.int x2), none], [.int s0, .ref 33], σ) = aCV (Rn G d 75 [.ref 33, .int s0] σ) fun σ1 => Lq G d M_107 (307, [some (.ref 33), some (.int x1), some (.int x2), none], [], σ1) :=
  (aUn_eq (tkd G.1 G.2) tmi (aRun (tkd G.1 G.2) tmi tmt d) M_107 [] 1 (304, [some (.ref 33), some (.int x1), some (.int x2), none], [.int s0, .ref 33], σ)).trans rfl
set_option maxRecDepth 20000 in
theorem q_107_2252 (G : Nat × (Nat → Int32)) (d : Nat) (x1 : Int32) (x2 : Int32) (σ : aH) : Lq G d M_107 (307, [some (.ref 33), some (.int x1), some (.int x2), none], [], σ) = some (.inl none, σ) :=
  (aUn_eq (tkd G.1 G.2) tmi (aRun (tkd G.1 G.2) tmi tmt d) M_107 [] 1 (307, [some (.ref 33), some (.int x1), some (.int x2), none], [], σ)).trans rfl
set_option maxRecDepth 20000 in
theorem q_107_2253 (G : Nat × (Nat → Int32)) (d : Nat) (x1 : Int32) (x2 : Int32) (σ : aH) : Lq G d M_107 (278, [some (.ref 33), some (.int x1), some (.int x2), none], [], σ) = Lq G d M_107 (286, [some (.ref 33), some (.int x1), some (.int x2), none], [.int (50 : Int32), .ref 33, .int x1, .ref 53], σ) :=
  (aUn_eq (tkd G.1 G.2) tmi (aRun (tkd G.1 G.2) tmi tmt d) M_107 [] 5 (278, [some (.ref 33), some (.int x1), some (.int x2), none], [], σ)).trans rfl
set_option maxRecDepth 20000 in
theorem q_107_2254 (G : Nat × (Nat → Int32)) (d : Nat) (x1 : Int32) (x2 : Int32) (s0 : Int32) (s2 : Int32) (σ : aH) : Lq G d M_107 (286, [some (.ref 33), some (.int x1), some (.int x2), none], [.int s0, .ref 33, .int s2, .ref 53], σ) = aCI (Rn G d 109 [.ref 33, .int s0] σ) fun v2 σ1 => Lq G d M_107 (289, [some (.ref 33), some (.int x1), some (.int x2), none], [.int v2, .int s2, .ref 53], σ1) :=
  (aUn_eq (tkd G.1 G.2) tmi (aRun (tkd G.1 G.2) tmi tmt d) M_107 [] 1 (286, [some (.ref 33), some (.int x1), some (.int x2), none], [.int s0, .ref 33, .int s2, .ref 53], σ)).trans rfl
set_option maxRecDepth 20000 in
theorem q_107_2255 (G : Nat × (Nat → Int32)) (d : Nat) (x1 : Int32) (x2 : Int32) (s0 : Int32) (s1 : Int32) (σ : aH) : Lq G d M_107 (289, [some (.ref 33), some (.int x1), some (.int x2), none], [.int s0, .int s1, .ref 53], σ) = aIx (s1) 60 fun j1 => Lq G d M_107 (290, [some (.ref 33), some (.int x1), some (.int x2), none], [], (aSI σ 53 j1 s0)) :=
  (aUn_eq (tkd G.1 G.2) tmi (aRun (tkd G.1 G.2) tmi tmt d) M_107 [] 1 (289, [some (.ref 33), some (.int x1), some (.int x2), none], [.int s0, .int s1, .ref 53], σ)).trans rfl
set_option maxRecDepth 20000 in
theorem q_107_2256 (G : Nat × (Nat → Int32)) (d : Nat) (x1 : Int32) (x2 : Int32) (σ : aH) : Lq G d M_107 (290, [some (.ref 33), some (.int x1), some (.int x2), none], [], σ) = Lq G d M_107 (296, [some (.ref 33), some (.int x1), some (.int x2), none], [.int (1 : Int32), .int x1, .ref 54], σ) :=
  (aUn_eq (tkd G.1 G.2) tmi (aRun (tkd G.1 G.2) tmi tmt d) M_107 [] 4 (290, [some (.ref 33), some (.int x1), some (.int x2), none], [], σ)).trans rfl
set_option maxRecDepth 20000 in
theorem q_107_2257 (G : Nat × (Nat → Int32)) (d : Nat) (x1 : Int32) (x2 : Int32) (s0 : Int32) (s1 : Int32) (σ : aH) : Lq G d M_107 (296, [some (.ref 33), some (.int x1), some (.int x2), none], [.int s0, .int s1, .ref 54], σ) = aIx (s1) 60 fun j1 => Lq G d M_107 (297, [some (.ref 33), some (.int x1), some (.int x2), none], [], (aSI σ 54 j1 (vp_nar .boolean s0))) :=
  (aUn_eq (tkd G.1 G.2) tmi (aRun (tkd G.1 G.2) tmi tmt d) M_107 [] 1 (296, [some (.ref 33), some (.int x1), some (.int x2), none], [.int s0, .int s1, .ref 54], σ)).trans rfl
set_option maxRecDepth 20000 in
theorem q_107_2258 (G : Nat × (Nat → Int32)) (d : Nat) (x1 : Int32) (x2 : Int32) (σ : aH) : Lq G d M_107 (207, [some (.ref 33), some (.int x1), some (.int x2), none], [], σ) = Lq G d M_107 (222, [some (.ref 33), some (.int x1), some (.int x2), none], [.int (999 : Int32), .ref 33, .int (((17 : Int32) * x1) + (12 : Int32)), .ref 40], σ) :=
  (aUn_eq (tkd G.1 G.2) tmi (aRun (tkd G.1 G.2) tmi tmt d) M_107 [] 9 (207, [some (.ref 33), some (.int x1), some (.int x2), none], [], σ)).trans rfl
set_option maxRecDepth 20000 in
theorem q_107_2259 (G : Nat × (Nat → Int32)) (d : Nat) (x1 : Int32) (x2 : Int32) (s0 : Int32) (s2 : Int32) (σ : aH) : Lq G d M_107 (222, [some (.ref 33), some (.int x1), some (.int x2), none], [.int s0, .ref 33, .int s2, .ref 40], σ) = aCI (Rn G d 109 [.ref 33, .int s0] σ) fun v2 σ1 => Lq G d M_107 (225, [some (.ref 33), some (.int x1), some (.int x2), none], [.int v2, .int s2, .ref 40], σ1) :=
  (aUn_eq (tkd G.1 G.2) tmi (aRun (tkd G.1 G.2) tmi tmt d) M_107 [] 1 (222, [some (.ref 33), some (.int x1), some (.int x2), none], [.int s0, .ref 33, .int s2, .ref 40], σ)).trans rfl
set_option maxRecDepth 20000 in
theorem q_107_2260 (G : Nat × (Nat → Int32)) (d : Nat) (x1 : Int32) (x2 : Int32) (s0 : Int32) (s1 : Int32) (σ : aH) : Lq G d M_107 (225, [some (.ref 33), some (.int x1), some (.int x2), none], [.int s0, .int s1, .ref 40], σ) = aIx (s1) 1020 fun j1 => Lq G d M_107 (226, [some (.ref 33), some (.int x1), some (.int x2), none], [], (aSI σ 40 j1 s0)) :=
  (aUn_eq (tkd G.1 G.2) tmi (aRun (tkd G.1 G.2) tmi tmt d) M_107 [] 1 (225, [some (.ref 33), some (.int x1), some (.int x2), none], [.int s0, .int s1, .ref 40], σ)).trans rfl
set_option maxRecDepth 20000 in
theorem q_107_2261 (G : Nat × (Nat → Int32)) (d : Nat) (x1 : Int32) (x2 : Int32) (σ : aH) : Lq G d M_107 (126, [some (.ref 33), some (.int x1), some (.int x2), none], [], σ) = Lq G d M_107 (131, [some (.ref 33), some (.int x1), some (.int x2), none], [.int (2 : Int32), .int (σ.1 33 20)], σ) :=
  (aUn_eq (tkd G.1 G.2) tmi (aRun (tkd G.1 G.2) tmi tmt d) M_107 [] 3 (126, [some (.ref 33), some (.int x1), some (.int x2), none], [], σ)).trans rfl
set_option maxRecDepth 20000 in
theorem q_107_2262 (G : Nat × (Nat → Int32)) (d : Nat) (x1 : Int32) (x2 : Int32) (s0 : Int32) (s1 : Int32) (σ : aH) : Lq G d M_107 (131, [some (.ref 33), some (.int x1), some (.int x2), none], [.int s0, .int s1], σ) = if s1 = s0 then Lq G d M_107 (134, [some (.ref 33), some (.int x1), some (.int x2), none], [], σ) else Lq G d M_107 (199, [some (.ref 33), some (.int x1), some (.int x2), none], [], σ) :=
  (aUn_eq (tkd G.1 G.2) tmi (aRun (tkd G.1 G.2) tmi tmt d) M_107 [] 1 (131, [some (.ref 33), some (.int x1), some (.int x2), none], [.int s0, .int s1], σ)).trans rfl
set_option maxRecDepth 20000 in
theorem q_107_2263 (G : Nat × (Nat → Int32)) (d : Nat) (x1 : Int32) (x2 : Int32) (σ : aH) : Lq G d M_107 (134, [some (.ref 33), some (.int x1), some (.int x2), none], [], σ) = Lq G d M_107 (139, [some (.ref 33), some (.int x1), some (.int x2), none], [.int (4 : Int32), .int (σ.1 33 22)], σ) :=
  (aUn_eq (tkd G.1 G.2) tmi (aRun (tkd G.1 G.2) tmi tmt d) M_107 [] 3 (134, [some (.ref 33), some (.int x1), some (.int x2), none], [], σ)).trans rfl
set_option maxRecDepth 20000 in
theorem q_107_2264 (G : Nat × (Nat → Int32)) (d : Nat) (x1 : Int32) (x2 : Int32) (s0 : Int32) (s1 : Int32) (σ : aH) : Lq G d M_107 (139, [some (.ref 33), some (.int x1), some (.int x2), none], [.int s0, .int s1], σ) = if s0 < s1 then Lq G d M_107 (164, [some (.ref 33), some (.int x1), some (.int x2), none], [], σ) else Lq G d M_107 (142, [some (.ref 33), some (.int x1), some (.int x2), none], [], σ) :=
  (aUn_eq (tkd G.1 G.2) tmi (aRun (tkd G.1 G.2) tmi tmt d) M_107 [] 1 (139, [some (.ref 33), some (.int x1), some (.int x2), none], [.int s0, .int s1], σ)).trans rfl
set_option maxRecDepth 20000 in
theorem q_107_2265 (G : Nat × (Nat → Int32)) (d : Nat) (x1 : Int32) (x2 : Int32) (σ : aH) : Lq G d M_107 (164, [some (.ref 33), some (.int x1), some (.int x2), none], [], σ) = Lq G d M_107 (168, [some (.ref 33), some (.int x1), some (.int x2), none], [.int (6 : Int32), .int (0 : Int32), .ref 33], σ) :=
  (aUn_eq (tkd G.1 G.2) tmi (aRun (tkd G.1 G.2) tmi tmt d) M_107 [] 3 (164, [some (.ref 33), some (.int x1), some (.int x2), none], [], σ)).trans rfl
set_option maxRecDepth 20000 in
theorem q_107_2266 (G : Nat × (Nat → Int32)) (d : Nat) (x1 : Int32) (x2 : Int32) (s0 : Int32) (s1 : Int32) (σ : aH) : Lq G d M_107 (168, [some (.ref 33), some (.int x1), some (.int x2), none], [.int s0, .int s1, .ref 33], σ) = aCI (Rn G d 76 [.ref 33, .int s1, .int s0] σ) fun v2 σ1 => Lq G d M_107 (171, [some (.ref 33), some (.int x1), some (.int x2), none], [.int v2], σ1) :=
  (aUn_eq (tkd G.1 G.2) tmi (aRun (tkd G.1 G.2) tmi tmt d) M_107 [] 1 (168, [some (.ref 33), some (.int x1), some (.int x2), none], [.int s0, .int s1, .ref 33], σ)).trans rfl
set_option maxRecDepth 20000 in
theorem q_107_2267 (G : Nat × (Nat → Int32)) (d : Nat) (x1 : Int32) (x2 : Int32) (s0 : Int32) (σ : aH) : Lq G d M_107 (171, [some (.ref 33), some (.int x1), some (.int x2), none], [.int s0], σ) = Lq G d M_107 (175, [some (.ref 33), some (.int x1), some (.int x2), some (.int (s0 - (3 : Int32)))], [.ref 33], σ) :=
  (aUn_eq (tkd G.1 G.2) tmi (aRun (tkd G.1 G.2) tmi tmt d) M_107 [] 4 (171, [some (.ref 33), some (.int x1), some (.int x2), none], [.int s0], σ)).trans rfl
set_option maxRecDepth 20000 in
theorem q_107_2268 (G : Nat × (Nat → Int32)) (d : Nat) (x1 : Int32) (x2 : Int32) (x3 : Int32) (σ : aH) : Lq G d M_107 (175, [some (.ref 33), some (.int x1), some (.int x2), some (.int x3)], [.ref 33], σ) = aCI (Rn G d 67 [.ref 33] σ) fun v2 σ1 => Lq G d M_107 (178, [some (.ref 33), some (.int x1), some (.int x2), some (.int x3)], [.int v2], σ1) :=
  (aUn_eq (tkd G.1 G.2) tmi (aRun (tkd G.1 G.2) tmi tmt d) M_107 [] 1 (175, [some (.ref 33), some (.int x1), some (.int x2), some (.int x3)], [.ref 33], σ)).trans rfl
set_option maxRecDepth 20000 in
theorem q_107_2269 (G : Nat × (Nat → Int32)) (d : Nat) (x1 : Int32) (x2 : Int32) (x3 : Int32) (s0 : Int32) (σ : aH) : Lq G d M_107 (178, [some (.ref 33), some (.int x1), some (.int x2), some (.int x3)], [.int s0], σ) = if s0 = 0 then Lq G d M_107 (193, [some (.ref 33), some (.int x1), some (.int x2), some (.int x3)], [], σ) else Lq G d M_107 (181, [some (.ref 33), some (.int x1), some (.int x2), some (.int x3)], [], σ) :=
  (aUn_eq (tkd G.1 G.2) tmi (aRun (tkd G.1 G.2) tmi tmt d) M_107 [] 1 (178, [some (.ref 33), some (.int x1), some (.int x2), some (.int x3)], [.int s0], σ)).trans rfl
set_option maxRecDepth 20000 in
theorem q_107_2270 (G : Nat × (Nat → Int32)) (d : Nat) (x1 : Int32) (x2 : Int32) (x3 : Int32) (σ : aH) : Lq G d M_107 (193, [some (.ref 33), some (.int x1), some (.int x2), some (.int x3)], [], σ) = Lq G d M_107 (119, [some (.ref 33), some (.int x1), some (.int (x2 + (1 : Int32))), none], [], σ) :=
  (aUn_eq (tkd G.1 G.2) tmi (aRun (tkd G.1 G.2) tmi tmt d) M_107 [] 2 (193, [some (.ref 33), some (.int x1), some (.int x2), some (.int x3)], [], σ)).trans rfl
set_option maxRecDepth 20000 in
theorem q_107_2271 (G : Nat × (Nat → Int32)) (d : Nat) (x1 : Int32) (x2 : Int32) (x3 : Int32) (σ : aH) : Lq G d M_107 (181, [some (.ref 33), some (.int x1), some (.int x2), some (.int x3)], [], σ) = Lq G d M_107 (192, [some (.ref 33), some (.int x1), some (.int x2), some (.int x3)], [.int x3, .int (((17 : Int32) * x1) + x2), .ref 40], σ) :=
  (aUn_eq (tkd G.1 G.2) tmi (aRun (tkd G.1 G.2) tmi tmt d) M_107 [] 8 (181, [some (.ref 33), some (.int x1), some (.int x2), some (.int x3)], [], σ)).trans rfl
set_option maxRecDepth 20000 in
theorem q_107_2272 (G : Nat × (Nat → Int32)) (d : Nat) (x1 : Int32) (x2 : Int32) (x3 : Int32) (s0 : Int32) (s1 : Int32) (σ : aH) : Lq G d M_107 (192, [some (.ref 33), some (.int x1), some (.int x2), some (.int x3)], [.int s0, .int s1, .ref 40], σ) = aIx (s1) 1020 fun j1 => Lq G d M_107 (193, [some (.ref 33), some (.int x1), some (.int x2), some (.int x3)], [], (aSI σ 40 j1 s0)) :=
  (aUn_eq (tkd G.1 G.2) tmi (aRun (tkd G.1 G.2) tmi tmt d) M_107 [] 1 (192, [some (.ref 33), some (.int x1), some (.int x2), some (.int x3)], [.int s0, .int s1, .ref 40], σ)).trans rfl
set_option maxRecDepth 20000 in
theorem q_107_2273 (G : Nat × (Nat → Int32)) (d : Nat) (x1 : Int32) (x2 : Int32) (σ : aH) : Lq G d M_107 (142, [some (.ref 33), some (.int x1), some (.int x2), none], [], σ) = Lq G d M_107 (148, [some (.ref 33), some (.int x1), some (.int x2), none], [.int (6 : Int32), .int (σ.1 33 23)], σ) :=
  (aUn_eq (tkd G.1 G.2) tmi (aRun (tkd G.1 G.2) tmi tmt d) M_107 [] 3 (142, [some (.ref 33), some (.int x1), some (.int x2), none], [], σ)).trans rfl
set_option maxRecDepth 20000 in
theorem q_107_2274 (G : Nat × (Nat → Int32)) (d : Nat) (x1 : Int32) (x2 : Int32) (s0 : Int32) (s1 : Int32) (σ : aH) : Lq G d M_107 (148, [some (.ref 33), some (.int x1), some (.int x2), none], [.int s0, .int s1], σ) = if s0 < s1 then Lq G d M_107 (164, [some (.ref 33), some (.int x1), some (.int x2), none], [], σ) else Lq G d M_107 (151, [some (.ref 33), some (.int x1), some (.int x2), none], [], σ) :=
  (aUn_eq (tkd G.1 G.2) tmi (aRun (tkd G.1 G.2) tmi tmt d) M_107 [] 1 (148, [some (.ref 33), some (.int x1), some (.int x2), none], [.int s0, .int s1], σ)).trans rfl
set_option maxRecDepth 20000 in
theorem q_107_2275 (G : Nat × (Nat → Int32)) (d : Nat) (x1 : Int32) (x2 : Int32) (σ : aH) : Lq G d M_107 (151, [some (.ref 33), some (.int x1), some (.int x2), none], [], σ) = Lq G d M_107 (156, [some (.ref 33), some (.int x1), some (.int x2), none], [.int (σ.1 33 4), .int x2], σ) :=
  (aUn_eq (tkd G.1 G.2) tmi (aRun (tkd G.1 G.2) tmi tmt d) M_107 [] 3 (151, [some (.ref 33), some (.int x1), some (.int x2), none], [], σ)).trans rfl
set_option maxRecDepth 20000 in
theorem q_107_2276 (G : Nat × (Nat → Int32)) (d : Nat) (x1 : Int32) (x2 : Int32) (s0 : Int32) (s1 : Int32) (σ : aH) : Lq G d M_107 (156, [some (.ref 33), some (.int x1), some (.int x2), none], [.int s0, .int s1], σ) = if s1 < s0 then Lq G d M_107 (164, [some (.ref 33), some (.int x1), some (.int x2), none], [], σ) else Lq G d M_107 (159, [some (.ref 33), some (.int x1), some (.int x2), none], [], σ) :=
  (aUn_eq (tkd G.1 G.2) tmi (aRun (tkd G.1 G.2) tmi tmt d) M_107 [] 1 (156, [some (.ref 33), some (.int x1), some (.int x2), none], [.int s0, .int s1], σ)).trans rfl
set_option maxRecDepth 20000 in
theorem q_107_2277 (G : Nat × (Nat → Int32)) (d : Nat) (x1 : Int32) (x2 : Int32) (σ : aH) : Lq G d M_107 (159, [some (.ref 33), some (.int x1), some (.int x2), none], [], σ) = Lq G d M_107 (161, [some (.ref 33), some (.int x1), some (.int x2), none], [.int (4 : Int32), .ref 33], σ) :=
  (aUn_eq (tkd G.1 G.2) tmi (aRun (tkd G.1 G.2) tmi tmt d) M_107 [] 2 (159, [some (.ref 33), some (.int x1), some (.int x2), none], [], σ)).trans rfl
set_option maxRecDepth 20000 in
theorem q_107_2278 (G : Nat × (Nat → Int32)) (d : Nat) (x1 : Int32) (x2 : Int32) (s0 : Int32) (σ : aH) : Lq G d M_107 (161, [some (.ref 33), some (.int x1), some (.int x2), none], [.int s0, .ref 33], σ) = aCV (Rn G d 73 [.ref 33, .int s0] σ) fun σ1 => Lq G d M_107 (164, [some (.ref 33), some (.int x1), some (.int x2), none], [], σ1) :=
  (aUn_eq (tkd G.1 G.2) tmi (aRun (tkd G.1 G.2) tmi tmt d) M_107 [] 1 (161, [some (.ref 33), some (.int x1), some (.int x2), none], [.int s0, .ref 33], σ)).trans rfl
set_option maxRecDepth 20000 in
theorem q_114_2279 (G : Nat × (Nat → Int32)) (d : Nat) (x0 : Int32) (σ : aH) : Lq G d M_114 (0, [some (.int x0)], [], σ) = Lq G d M_114 (1, [some (.int x0)], [.int x0], σ) :=
  (aUn_eq (tkd G.1 G.2) tmi (aRun (tkd G.1 G.2) tmi tmt d) M_114 [] 1 (0, [some (.int x0)], [], σ)).trans rfl
set_option maxRecDepth 20000 in
theorem q_114_2280 (G : Nat × (Nat → Int32)) (d : Nat) (x0 : Int32) (s0 : Int32) (σ : aH) : Lq G d M_114 (1, [some (.int x0)], [.int s0], σ) = if s0 = 0 then Lq G d M_114 (4, [some (.int x0)], [], σ) else Lq G d M_114 (12, [some (.int x0)], [], σ) :=
  (aUn_eq (tkd G.1 G.2) tmi (aRun (tkd G.1 G.2) tmi tmt d) M_114 [] 1 (1, [some (.int x0)], [.int s0], σ)).trans rfl
set_option maxRecDepth 20000 in
theorem q_114_2281 (G : Nat × (Nat → Int32)) (d : Nat) (x0 : Int32) (σ : aH) : Lq G d M_114 (4, [some (.int x0)], [], σ) = some (.inr 0, σ) :=
  (aUn_eq (tkd G.1 G.2) tmi (aRun (tkd G.1 G.2) tmi tmt d) M_114 [] 1 (4, [some (.int x0)], [], σ)).trans rfl
set_option maxRecDepth 20000 in
theorem q_114_2282 (G : Nat × (Nat → Int32)) (d : Nat) (x0 : Int32) (σ : aH) : Lq G d M_114 (12, [some (.int x0)], [], σ) = some (.inl none, σ) :=
  (aUn_eq (tkd G.1 G.2) tmi (aRun (tkd G.1 G.2) tmi tmt d) M_114 [] 1 (12, [some (.int x0)], [], σ)).trans rfl
set_option maxRecDepth 20000 in
theorem q_115_2283 (G : Nat × (Nat → Int32)) (d : Nat)  (σ : aH) : Lq G d M_115 (0, [some (.ref 17), some (.ref 3), some (.ref 13), none, none], [], σ) = Lq G d M_115 (3, [some (.ref 17), some (.ref 3), some (.ref 13), none, none], [.ref 13, .ref 3, .ref 17], σ) :=
  (aUn_eq (tkd G.1 G.2) tmi (aRun (tkd G.1 G.2) tmi tmt d) M_115 [] 3 (0, [some (.ref 17), some (.ref 3), some (.ref 13), none, none], [], σ)).trans rfl
set_option maxRecDepth 20000 in
theorem q_115_2284 (G : Nat × (Nat → Int32)) (d : Nat)  (σ : aH) : Lq G d M_115 (3, [some (.ref 17), some (.ref 3), some (.ref 13), none, none], [.ref 13, .ref 3, .ref 17], σ) = aCV (Rn G d 116 [.ref 17, .ref 3, .ref 13] σ) fun σ1 => Lq G d M_115 (6, [some (.ref 17), some (.ref 3), some (.ref 13), none, none], [], σ1) :=
  (aUn_eq (tkd G.1 G.2) tmi (aRun (tkd G.1 G.2) tmi tmt d) M_115 [] 1 (3, [some (.ref 17), some (.ref 3), some (.ref 13), none, none], [.ref 13, .ref 3, .ref 17], σ)).trans rfl
set_option maxRecDepth 20000 in
theorem q_115_2285 (G : Nat × (Nat → Int32)) (d : Nat)  (σ : aH) : Lq G d M_115 (6, [some (.ref 17), some (.ref 3), some (.ref 13), none, none], [], σ) = Lq G d M_115 (13, [some (.ref 17), some (.ref 3), some (.ref 13), some (.int (0 : Int32)), none], [], (aSI σ 17 6 (0 : Int32))) :=
  (aUn_eq (tkd G.1 G.2) tmi (aRun (tkd G.1 G.2) tmi tmt d) M_115 [] 5 (6, [some (.ref 17), some (.ref 3), some (.ref 13), none, none], [], σ)).trans rfl
set_option maxRecDepth 20000 in
theorem q_115_2286 (G : Nat × (Nat → Int32)) (d : Nat) (x3 : Int32) (σ : aH) : Lq G d M_115 (13, [some (.ref 17), some (.ref 3), some (.ref 13), some (.int x3), none], [], σ) = Lq G d M_115 (18, [some (.ref 17), some (.ref 3), some (.ref 13), some (.int x3), none], [.int (σ.1 13 1), .int x3], σ) :=
  (aUn_eq (tkd G.1 G.2) tmi (aRun (tkd G.1 G.2) tmi tmt d) M_115 [] 3 (13, [some (.ref 17), some (.ref 3), some (.ref 13), some (.int x3), none], [], σ)).trans rfl
set_option maxRecDepth 20000 in
theorem q_115_2287 (G : Nat × (Nat → Int32)) (d : Nat) (x3 : Int32) (s0 : Int32) (s1 : Int32) (σ : aH) : Lq G d M_115 (18, [some (.ref 17), some (.ref 3), some (.ref 13), some (.int x3), none], [.int s0, .int s1], σ) = if s0 ≤ s1 then Lq G d M_115 (95, [some (.ref 17), some (.ref 3), some (.ref 13), some (.int x3), none], [], σ) else Lq G d M_115 (21, [some (.ref 17), some (.ref 3), some (.ref 13), some (.int x3), none], [], σ) :=
  (aUn_eq (tkd G.1 G.2) tmi (aRun (tkd G.1 G.2) tmi tmt d) M_115 [] 1 (18, [some (.ref 17), some (.ref 3), some (.ref 13), some (.int x3), none], [.int s0, .int s1], σ)).trans rfl
set_option maxRecDepth 20000 in
theorem q_115_2288 (G : Nat × (Nat → Int32)) (d : Nat) (x3 : Int32) (σ : aH) : Lq G d M_115 (95, [some (.ref 17), some (.ref 3), some (.ref 13), some (.int x3), none], [], σ) = some (.inl none, σ) :=
  (aUn_eq (tkd G.1 G.2) tmi (aRun (tkd G.1 G.2) tmi tmt d) M_115 [] 1 (95, [some (.ref 17), some (.ref 3), some (.ref 13), some (.int x3), none], [], σ)).trans rfl
set_option maxRecDepth 20000 in
theorem q_115_2289 (G : Nat × (Nat → Int32)) (d : Nat) (x3 : Int32) (σ : aH) : Lq G d M_115 (21, [some (.ref 17), some (.ref 3), some (.ref 13), some (.int x3), none], [], σ) = Lq G d M_115 (25, [some (.ref 17), some (.ref 3), some (.ref 13), some (.int x3), none], [.int x3, .ref 13, .ref 3, .ref 17], σ) :=
  (aUn_eq (tkd G.1 G.2) tmi (aRun (tkd G.1 G.2) tmi tmt d) M_115 [] 4 (21, [some (.ref 17), some (.ref 3), some (.ref 13), some (.int x3), none], [], σ)).trans rfl
set_option maxRecDepth 20000 in
theorem q_115_2290 (G : Nat × (Nat → Int32)) (d : Nat) (x3 : Int32) (s0 : Int32) (σ : aH) : Lq G d M_115 (25, [some (.ref 17), some (.ref 3), some (.ref 13), some (.int x3), none], [.int s0, .ref 13, .ref 3, .ref 17], σ) = aCV (Rn G d 120 [.ref 17, .ref 3, .ref 13, .int s0] σ) fun σ1 => Lq G d M_115 (28, [some (.ref 17), some (.ref 3), some (.ref 13), some (.int x3), none], [], σ1) :=
  (aUn_eq (tkd G.1 G.2) tmi (aRun (tkd G.1 G.2) tmi tmt d) M_115 [] 1 (25, [some (.ref 17), some (.ref 3), some (.ref 13), some (.int x3), none], [.int s0, .ref 13, .ref 3, .ref 17], σ)).trans rfl
set_option maxRecDepth 20000 in
theorem q_115_2291 (G : Nat × (Nat → Int32)) (d : Nat) (x3 : Int32) (σ : aH) : Lq G d M_115 (28, [some (.ref 17), some (.ref 3), some (.ref 13), some (.int x3), none], [], σ) = Lq G d M_115 (30, [some (.ref 17), some (.ref 3), some (.ref 13), some (.int x3), none], [.ref 3, .ref 17], σ) :=
  (aUn_eq (tkd G.1 G.2) tmi (aRun (tkd G.1 G.2) tmi tmt d) M_115 [] 2 (28, [some (.ref 17), some (.ref 3), some (.ref 13), some (.int x3), none], [], σ)).trans rfl
set_option maxRecDepth 20000 in
theorem q_115_2292 (G : Nat × (Nat → Int32)) (d : Nat) (x3 : Int32) (σ : aH) : Lq G d M_115 (30, [some (.ref 17), some (.ref 3), some (.ref 13), some (.int x3), none], [.ref 3, .ref 17], σ) = aCI (Rn G d 123 [.ref 17, .ref 3] σ) fun v2 σ1 => Lq G d M_115 (33, [some (.ref 17), some (.ref 3), some (.ref 13), some (.int x3), none], [.int v2], σ1) :=
  (aUn_eq (tkd G.1 G.2) tmi (aRun (tkd G.1 G.2) tmi tmt d) M_115 [] 1 (30, [some (.ref 17), some (.ref 3), some (.ref 13), some (.int x3), none], [.ref 3, .ref 17], σ)).trans rfl
set_option maxRecDepth 20000 in
theorem q_115_2293 (G : Nat × (Nat → Int32)) (d : Nat) (x3 : Int32) (s0 : Int32) (σ : aH) : Lq G d M_115 (33, [some (.ref 17), some (.ref 3), some (.ref 13), some (.int x3), none], [.int s0], σ) = Lq G d M_115 (38, [some (.ref 17), some (.ref 3), some (.ref 13), some (.int x3), some (.int s0)], [.int (-1 : Int32), .int s0], σ) :=
  (aUn_eq (tkd G.1 G.2) tmi (aRun (tkd G.1 G.2) tmi tmt d) M_115 [] 3 (33, [some (.ref 17), some (.ref 3), some (.ref 13), some (.int x3), none], [.int s0], σ)).trans rfl
set_option maxRecDepth 20000 in
theorem q_115_2294 (G : Nat × (Nat → Int32)) (d : Nat) (x3 : Int32) (x4 : Int32) (s0 : Int32) (s1 : Int32) (σ : aH) : Lq G d M_115 (38, [some (.ref 17), some (.ref 3), some (.ref 13), some (.int x3), some (.int x4)], [.int s0, .int s1], σ) = if s1 = s0 then Lq G d M_115 (41, [some (.ref 17), some (.ref 3), some (.ref 13), some (.int x3), some (.int x4)], [], σ) else Lq G d M_115 (59, [some (.ref 17), some (.ref 3), some (.ref 13), some (.int x3), some (.int x4)], [], σ) :=
  (aUn_eq (tkd G.1 G.2) tmi (aRun (tkd G.1 G.2) tmi tmt d) M_115 [] 1 (38, [some (.ref 17), some (.ref 3), some (.ref 13), some (.int x3), some (.int x4)], [.int s0, .int s1], σ)).trans rfl
set_option maxRecDepth 20000 in
theorem q_115_2295 (G : Nat × (Nat → Int32)) (d : Nat) (x3 : Int32) (x4 : Int32) (σ : aH) : Lq G d M_115 (41, [some (.ref 17), some (.ref 3), some (.ref 13), some (.int x3), some (.int x4)], [], σ) = Lq G d M_115 (46, [some (.ref 17), some (.ref 3), some (.ref 13), some (.int x3), some (.int x4)], [.int (16 : Int32), .int x3, .ref 13, .ref 17], σ) :=
  (aUn_eq (tkd G.1 G.2) tmi (aRun (tkd G.1 G.2) tmi tmt d) M_115 [] 4 (41, [some (.ref 17), some (.ref 3), some (.ref 13), some (.int x3), some (.int x4)], [], σ)).trans rfl
set_option maxRecDepth 20000 in
theorem q_115_2296 (G : Nat × (Nat → Int32)) (d : Nat) (x3 : Int32) (x4 : Int32) (s0 : Int32) (s1 : Int32) (σ : aH) : Lq G d M_115 (46, [some (.ref 17), some (.ref 3), some (.ref 13), some (.int x3), some (.int x4)], [.int s0, .int s1, .ref 13, .ref 17], σ) = aCI (Rn G d 117 [.ref 13, .int s1, .int s0] σ) fun v2 σ1 => Lq G d M_115 (49, [some (.ref 17), some (.ref 3), some (.ref 13), some (.int x3), some (.int x4)], [.int v2, .ref 17], σ1) :=
  (aUn_eq (tkd G.1 G.2) tmi (aRun (tkd G.1 G.2) tmi tmt d) M_115 [] 1 (46, [some (.ref 17), some (.ref 3), some (.ref 13), some (.int x3), some (.int x4)], [.int s0, .int s1, .ref 13, .ref 17], σ)).trans rfl
set_option maxRecDepth 20000 in
theorem q_115_2297 (G : Nat × (Nat → Int32)) (d : Nat) (x3 : Int32) (x4 : Int32) (s0 : Int32) (σ : aH) : Lq G d M_115 (49, [some (.ref 17), some (.ref 3), some (.ref 13), some (.int x3), some (.int x4)], [.int s0, .ref 17], σ) = aCI (Rn G d 128 [.ref 17, .int s0] σ) fun v2 σ1 => Lq G d M_115 (52, [some (.ref 17), some (.ref 3), some (.ref 13), some (.int x3), some (.int x4)], [.int v2], σ1) :=
  (aUn_eq (tkd G.1 G.2) tmi (aRun (tkd G.1 G.2) tmi tmt d) M_115 [] 1 (49, [some (.ref 17), some (.ref 3), some (.ref 13), some (.int x3), some (.int x4)], [.int s0, .ref 17], σ)).trans rfl
set_option maxRecDepth 20000 in
theorem q_115_2298 (G : Nat × (Nat → Int32)) (d : Nat) (x3 : Int32) (x4 : Int32) (s0 : Int32) (σ : aH) : Lq G d M_115 (52, [some (.ref 17), some (.ref 3), some (.ref 13), some (.int x3), some (.int x4)], [.int s0], σ) = if s0 = 0 then Lq G d M_115 (59, [some (.ref 17), some (.ref 3), some (.ref 13), some (.int x3), some (.int x4)], [], σ) else Lq G d M_115 (55, [some (.ref 17), some (.ref 3), some (.ref 13), some (.int x3), some (.int x4)], [], σ) :=
  (aUn_eq (tkd G.1 G.2) tmi (aRun (tkd G.1 G.2) tmi tmt d) M_115 [] 1 (52, [some (.ref 17), some (.ref 3), some (.ref 13), some (.int x3), some (.int x4)], [.int s0], σ)).trans rfl
set_option maxRecDepth 20000 in
theorem q_115_2299 (G : Nat × (Nat → Int32)) (d : Nat) (x3 : Int32) (x4 : Int32) (σ : aH) : Lq G d M_115 (59, [some (.ref 17), some (.ref 3), some (.ref 13), some (.int x3), some (.int x4)], [], σ) = Lq G d M_115 (66, [some (.ref 17), some (.ref 3), some (.ref 13), some (.int x3), some (.int x4)], [.int x4, .int x3, .ref 18], σ) :=
  (aUn_eq (tkd G.1 G.2) tmi (aRun (tkd G.1 G.2) tmi tmt d) M_115 [] 4 (59, [some (.ref 17), some (.ref 3), some (.ref 13), some (.int x3), some (.int x4)], [], σ)).trans rfl
set_option maxRecDepth 20000 in
theorem q_115_2300 (G : Nat × (Nat → Int32)) (d : Nat) (x3 : Int32) (x4 : Int32) (s0 : Int32) (s1 : Int32) (σ : aH) : Lq G d M_115 (66, [some (.ref 17), some (.ref 3), some (.ref 13), some (.int x3), some (.int x4)], [.int s0, .int s1, .ref 18], σ) = aCV (Rn G d 24 [.ref 18, .int s1, .int s0] σ) fun σ1 => Lq G d M_115 (69, [some (.ref 17), some (.ref 3), some (.ref 13), some (.int x3), some (.int x4)], [], σ1) :=
  (aUn_eq (tkd G.1 G.2) tmi (aRun (tkd G.1 G.2) tmi tmt d) M_115 [] 1 (66, [some (.ref 17), some (.ref 3), some (.ref 13), some (.int x3), some (.int x4)], [.int s0, .int s1, .ref 18], σ)).trans rfl
set_option maxRecDepth 20000 in
theorem q_115_2301 (G : Nat × (Nat → Int32)) (d : Nat) (x3 : Int32) (x4 : Int32) (σ : aH) : Lq G d M_115 (69, [some (.ref 17), some (.ref 3), some (.ref 13), some (.int x3), some (.int x4)], [], σ) = Lq G d M_115 (77, [some (.ref 17), some (.ref 3), some (.ref 13), some (.int x3), some (.int x4)], [.int (-1 : Int32), .int x4, .int (σ.1 17 6), .ref 17], σ) :=
  (aUn_eq (tkd G.1 G.2) tmi (aRun (tkd G.1 G.2) tmi tmt d) M_115 [] 5 (69, [some (.ref 17), some (.ref 3), some (.ref 13), some (.int x3), some (.int x4)], [], σ)).trans rfl
set_option maxRecDepth 20000 in
theorem q_115_2302 (G : Nat × (Nat → Int32)) (d : Nat) (x3 : Int32) (x4 : Int32) (s0 : Int32) (s1 : Int32) (s2 : Int32) (σ : aH) : Lq G d M_115 (77, [some (.ref 17), some (.ref 3), some (.ref 13), some (.int x3), some (.int x4)], [.int s0, .int s1, .int s2, .ref 17], σ) = if s1 = s0 then Lq G d M_115 (80, [some (.ref 17), some (.ref 3), some (.ref 13), some (.int x3), some (.int x4)], [.int s2, .ref 17], σ) else Lq G d M_115 (84, [some (.ref 17), some (.ref 3), some (.ref 13), some (.int x3), some (.int x4)], [.int s2, .ref 17], σ) :=
  (aUn_eq (tkd G.1 G.2) tmi (aRun (tkd G.1 G.2) tmi tmt d) M_115 [] 1 (77, [some (.ref 17), some (.ref 3), some (.ref 13), some (.int x3), some (.int x4)], [.int s0, .int s1, .int s2, .ref 17], σ)).trans rfl
set_option maxRecDepth 20000 in
theorem q_115_2303 (G : Nat × (Nat → Int32)) (d : Nat) (x3 : Int32) (x4 : Int32) (s0 : Int32) (σ : aH) : Lq G d M_115 (80, [some (.ref 17), some (.ref 3), some (.ref 13), some (.int x3), some (.int x4)], [.int s0, .ref 17], σ) = Lq G d M_115 (13, [some (.ref 17), some (.ref 3), some (.ref 13), some (.int (x3 + (1 : Int32))), none], [], (aSI σ 17 6 (s0 + (1 : Int32)))) :=
  (aUn_eq (tkd G.1 G.2) tmi (aRun (tkd G.1 G.2) tmi tmt d) M_115 [] 6 (80, [some (.ref 17), some (.ref 3), some (.ref 13), some (.int x3), some (.int x4)], [.int s0, .ref 17], σ)).trans rfl
set_option maxRecDepth 20000 in
theorem q_115_2304 (G : Nat × (Nat → Int32)) (d : Nat) (x3 : Int32) (x4 : Int32) (s0 : Int32) (σ : aH) : Lq G d M_115 (84, [some (.ref 17), some (.ref 3), some (.ref 13), some (.int x3), some (.int x4)], [.int s0, .ref 17], σ) = Lq G d M_115 (13, [some (.ref 17), some (.ref 3), some (.ref 13), some (.int (x3 + (1 : Int32))), none], [], (aSI σ 17 6 (s0 + (0 : Int32)))) :=
  (aUn_eq (tkd G.1 G.2) tmi (aRun (tkd G.1 G.2) tmi tmt d) M_115 [] 5 (84, [some (.ref 17), some (.ref 3), some (.ref 13), some (.int x3), some (.int x4)], [.int s0, .ref 17], σ)).trans rfl
set_option maxRecDepth 20000 in
theorem q_115_2305 (G : Nat × (Nat → Int32)) (d : Nat) (x3 : Int32) (x4 : Int32) (σ : aH) : Lq G d M_115 (55, [some (.ref 17), some (.ref 3), some (.ref 13), some (.int x3), some (.int x4)], [], σ) = Lq G d M_115 (66, [some (.ref 17), some (.ref 3), some (.ref 13), some (.int x3), some (.int (-2 : Int32))], [.int (-2 : Int32), .int x3, .ref 18], σ) :=
  (aUn_eq (tkd G.1 G.2) tmi (aRun (tkd G.1 G.2) tmi tmt d) M_115 [] 6 (55, [some (.ref 17), some (.ref 3), some (.ref 13), some (.int x3), some (.int x4)], [], σ)).trans rfl
set_option maxRecDepth 20000 in
theorem q_32_2306 (G : Nat × (Nat → Int32)) (d : Nat) (rx0 : Nat) (x1 : Int32) (σ : aH) : Lq G d M_32 (0, [some (.ref rx0), some (.int x1)], [], σ) = Lq G d M_32 (1, [some (.ref rx0), some (.int x1)], [.int x1], σ) :=
  (aUn_eq (tkd G.1 G.2) tmi (aRun (tkd G.1 G.2) tmi tmt d) M_32 [] 1 (0, [some (.ref rx0), some (.int x1)], [], σ)).trans rfl
set_option maxRecDepth 20000 in
theorem q_32_2307 (G : Nat × (Nat → Int32)) (d : Nat) (rx0 : Nat) (x1 : Int32) (s0 : Int32) (σ : aH) : Lq G d M_32 (1, [some (.ref rx0), some (.int x1)], [.int s0], σ) = if s0 < 0 then Lq G d M_32 (16, [some (.ref rx0), some (.int x1)], [], σ) else Lq G d M_32 (4, [some (.ref rx0), some (.int x1)], [], σ) :=
  (aUn_eq (tkd G.1 G.2) tmi (aRun (tkd G.1 G.2) tmi tmt d) M_32 [] 1 (1, [some (.ref rx0), some (.int x1)], [.int s0], σ)).trans rfl
set_option maxRecDepth 20000 in
theorem q_32_2308 (G : Nat × (Nat → Int32)) (d : Nat) (rx0 : Nat) (x1 : Int32) (σ : aH) : Lq G d M_32 (16, [some (.ref rx0), some (.int x1)], [], σ) = Lq G d M_32 (17, [some (.ref rx0), some (.int x1)], [.int (0 : Int32)], σ) :=
  (aUn_eq (tkd G.1 G.2) tmi (aRun (tkd G.1 G.2) tmi tmt d) M_32 [] 1 (16, [some (.ref rx0), some (.int x1)], [], σ)).trans rfl
set_option maxRecDepth 20000 in
theorem q_32_2309 (G : Nat × (Nat → Int32)) (d : Nat) (rx0 : Nat) (x1 : Int32) (s0 : Int32) (σ : aH) : Lq G d M_32 (17, [some (.ref rx0), some (.int x1)], [.int s0], σ) = some (.inl (some (.int s0)), σ) :=
  (aUn_eq (tkd G.1 G.2) tmi (aRun (tkd G.1 G.2) tmi tmt d) M_32 [] 1 (17, [some (.ref rx0), some (.int x1)], [.int s0], σ)).trans rfl
set_option maxRecDepth 20000 in
theorem q_32_2310 (G : Nat × (Nat → Int32)) (d : Nat) (rx0 : Nat) (x1 : Int32) (σ : aH) : Lq G d M_32 (4, [some (.ref rx0), some (.int x1)], [], σ) = Lq G d M_32 (6, [some (.ref rx0), some (.int x1)], [.ref rx0, .int x1], σ) :=
  (aUn_eq (tkd G.1 G.2) tmi (aRun (tkd G.1 G.2) tmi tmt d) M_32 [] 2 (4, [some (.ref rx0), some (.int x1)], [], σ)).trans rfl
set_option maxRecDepth 20000 in
theorem q_32_2311 (G : Nat × (Nat → Int32)) (d : Nat) (rx0 : Nat) (x1 : Int32) (rs0 : Nat) (s1 : Int32) (σ : aH) : Lq G d M_32 (6, [some (.ref rx0), some (.int x1)], [.ref rs0, .int s1], σ) = aLen (tkd G.1 G.2) rs0 fun n1 => Lq G d M_32 (7, [some (.ref rx0), some (.int x1)], [.int (Int32.ofNat n1), .int s1], σ) :=
  (aUn_eq (tkd G.1 G.2) tmi (aRun (tkd G.1 G.2) tmi tmt d) M_32 [] 1 (6, [some (.ref rx0), some (.int x1)], [.ref rs0, .int s1], σ)).trans rfl
set_option maxRecDepth 20000 in
theorem q_32_2312 (G : Nat × (Nat → Int32)) (d : Nat) (rx0 : Nat) (x1 : Int32) (s0 : Int32) (s1 : Int32) (σ : aH) : Lq G d M_32 (7, [some (.ref rx0), some (.int x1)], [.int s0, .int s1], σ) = if s0 ≤ s1 then Lq G d M_32 (16, [some (.ref rx0), some (.int x1)], [], σ) else Lq G d M_32 (10, [some (.ref rx0), some (.int x1)], [], σ) :=
  (aUn_eq (tkd G.1 G.2) tmi (aRun (tkd G.1 G.2) tmi tmt d) M_32 [] 1 (7, [some (.ref rx0), some (.int x1)], [.int s0, .int s1], σ)).trans rfl
set_option maxRecDepth 20000 in
theorem q_32_2313 (G : Nat × (Nat → Int32)) (d : Nat) (rx0 : Nat) (x1 : Int32) (σ : aH) : Lq G d M_32 (10, [some (.ref rx0), some (.int x1)], [], σ) = Lq G d M_32 (12, [some (.ref rx0), some (.int x1)], [.int x1, .ref rx0], σ) :=
  (aUn_eq (tkd G.1 G.2) tmi (aRun (tkd G.1 G.2) tmi tmt d) M_32 [] 2 (10, [some (.ref rx0), some (.int x1)], [], σ)).trans rfl
set_option maxRecDepth 20000 in
theorem q_32_2314 (G : Nat × (Nat → Int32)) (d : Nat) (rx0 : Nat) (x1 : Int32) (s0 : Int32) (rs1 : Nat) (σ : aH) : Lq G d M_32 (12, [some (.ref rx0), some (.int x1)], [.int s0, .ref rs1], σ) = aArr (tkd G.1 G.2) 0 rs1 σ fun n2 f3 => aIx (s0) n2 fun j1 => Lq G d M_32 (13, [some (.ref rx0), some (.int x1)], [.int (f3 j1)], σ) :=
  (aUn_eq (tkd G.1 G.2) tmi (aRun (tkd G.1 G.2) tmi tmt d) M_32 [] 1 (12, [some (.ref rx0), some (.int x1)], [.int s0, .ref rs1], σ)).trans rfl
set_option maxRecDepth 20000 in
theorem q_32_2315 (G : Nat × (Nat → Int32)) (d : Nat) (rx0 : Nat) (x1 : Int32) (s0 : Int32) (σ : aH) : Lq G d M_32 (13, [some (.ref rx0), some (.int x1)], [.int s0], σ) = Lq G d M_32 (17, [some (.ref rx0), some (.int x1)], [.int s0], σ) :=
  (aUn_eq (tkd G.1 G.2) tmi (aRun (tkd G.1 G.2) tmi tmt d) M_32 [] 1 (13, [some (.ref rx0), some (.int x1)], [.int s0], σ)).trans rfl
set_option maxRecDepth 20000 in
theorem q_98_2316 (G : Nat × (Nat → Int32)) (d : Nat) (x1 : Int32) (σ : aH) : Lq G d M_98 (0, [some (.ref 3), some (.int x1)], [], σ) = Lq G d M_98 (5, [some (.ref 3), some (.int x1)], [.int x1, .ref 4], σ) :=
  (aUn_eq (tkd G.1 G.2) tmi (aRun (tkd G.1 G.2) tmi tmt d) M_98 [] 3 (0, [some (.ref 3), some (.int x1)], [], σ)).trans rfl
set_option maxRecDepth 20000 in
theorem q_98_2317 (G : Nat × (Nat → Int32)) (d : Nat) (x1 : Int32) (s0 : Int32) (σ : aH) : Lq G d M_98 (5, [some (.ref 3), some (.int x1)], [.int s0, .ref 4], σ) = aCI (Rn G d 32 [.ref 4, .int s0] σ) fun v2 σ1 => Lq G d M_98 (8, [some (.ref 3), some (.int x1)], [.int v2], σ1) :=
  (aUn_eq (tkd G.1 G.2) tmi (aRun (tkd G.1 G.2) tmi tmt d) M_98 [] 1 (5, [some (.ref 3), some (.int x1)], [.int s0, .ref 4], σ)).trans rfl
set_option maxRecDepth 20000 in
theorem q_98_2318 (G : Nat × (Nat → Int32)) (d : Nat) (x1 : Int32) (s0 : Int32) (σ : aH) : Lq G d M_98 (8, [some (.ref 3), some (.int x1)], [.int s0], σ) = some (.inl (some (.int s0)), σ) :=
  (aUn_eq (tkd G.1 G.2) tmi (aRun (tkd G.1 G.2) tmi tmt d) M_98 [] 1 (8, [some (.ref 3), some (.int x1)], [.int s0], σ)).trans rfl
set_option maxRecDepth 20000 in
theorem q_130_2319 (G : Nat × (Nat → Int32)) (d : Nat) (x0 : Int32) (x1 : Int32) (x2 : Int32) (σ : aH) : Lq G d M_130 (0, [some (.int x0), some (.int x1), some (.int x2)], [], σ) = Lq G d M_130 (2, [some (.int x0), some (.int x1), some (.int x2)], [.int x1, .int x0], σ) :=
  (aUn_eq (tkd G.1 G.2) tmi (aRun (tkd G.1 G.2) tmi tmt d) M_130 [] 2 (0, [some (.int x0), some (.int x1), some (.int x2)], [], σ)).trans rfl
set_option maxRecDepth 20000 in
theorem q_130_2320 (G : Nat × (Nat → Int32)) (d : Nat) (x0 : Int32) (x1 : Int32) (x2 : Int32) (s0 : Int32) (s1 : Int32) (σ : aH) : Lq G d M_130 (2, [some (.int x0), some (.int x1), some (.int x2)], [.int s0, .int s1], σ) = if s1 < s0 then Lq G d M_130 (14, [some (.int x0), some (.int x1), some (.int x2)], [], σ) else Lq G d M_130 (5, [some (.int x0), some (.int x1), some (.int x2)], [], σ) :=
  (aUn_eq (tkd G.1 G.2) tmi (aRun (tkd G.1 G.2) tmi tmt d) M_130 [] 1 (2, [some (.int x0), some (.int x1), some (.int x2)], [.int s0, .int s1], σ)).trans rfl
set_option maxRecDepth 20000 in
theorem q_130_2321 (G : Nat × (Nat → Int32)) (d : Nat) (x0 : Int32) (x1 : Int32) (x2 : Int32) (σ : aH) : Lq G d M_130 (14, [some (.int x0), some (.int x1), some (.int x2)], [], σ) = Lq G d M_130 (15, [some (.int x0), some (.int x1), some (.int x2)], [.int (0 : Int32)], σ) :=
  (aUn_eq (tkd G.1 G.2) tmi (aRun (tkd G.1 G.2) tmi tmt d) M_130 [] 1 (14, [some (.int x0), some (.int x1), some (.int x2)], [], σ)).trans rfl
set_option maxRecDepth 20000 in
theorem q_130_2322 (G : Nat × (Nat → Int32)) (d : Nat) (x0 : Int32) (x1 : Int32) (x2 : Int32) (s0 : Int32) (σ : aH) : Lq G d M_130 (15, [some (.int x0), some (.int x1), some (.int x2)], [.int s0], σ) = aNar .boolean (s0) (some (.inl (some (.int s0)), σ)) :=
  (aUn_eq (tkd G.1 G.2) tmi (aRun (tkd G.1 G.2) tmi tmt d) M_130 [] 1 (15, [some (.int x0), some (.int x1), some (.int x2)], [.int s0], σ)).trans rfl
set_option maxRecDepth 20000 in
theorem q_130_2323 (G : Nat × (Nat → Int32)) (d : Nat) (x0 : Int32) (x1 : Int32) (x2 : Int32) (σ : aH) : Lq G d M_130 (5, [some (.int x0), some (.int x1), some (.int x2)], [], σ) = Lq G d M_130 (7, [some (.int x0), some (.int x1), some (.int x2)], [.int x2, .int x0], σ) :=
  (aUn_eq (tkd G.1 G.2) tmi (aRun (tkd G.1 G.2) tmi tmt d) M_130 [] 2 (5, [some (.int x0), some (.int x1), some (.int x2)], [], σ)).trans rfl
set_option maxRecDepth 20000 in
theorem q_130_2324 (G : Nat × (Nat → Int32)) (d : Nat) (x0 : Int32) (x1 : Int32) (x2 : Int32) (s0 : Int32) (s1 : Int32) (σ : aH) : Lq G d M_130 (7, [some (.int x0), some (.int x1), some (.int x2)], [.int s0, .int s1], σ) = if s0 < s1 then Lq G d M_130 (14, [some (.int x0), some (.int x1), some (.int x2)], [], σ) else Lq G d M_130 (10, [some (.int x0), some (.int x1), some (.int x2)], [], σ) :=
  (aUn_eq (tkd G.1 G.2) tmi (aRun (tkd G.1 G.2) tmi tmt d) M_130 [] 1 (7, [some (.int x0), some (.int x1), some (.int x2)], [.int s0, .int s1], σ)).trans rfl
set_option maxRecDepth 20000 in
theorem q_130_2325 (G : Nat × (Nat → Int32)) (d : Nat) (x0 : Int32) (x1 : Int32) (x2 : Int32) (σ : aH) : Lq G d M_130 (10, [some (.int x0), some (.int x1), some (.int x2)], [], σ) = Lq G d M_130 (15, [some (.int x0), some (.int x1), some (.int x2)], [.int (1 : Int32)], σ) :=
  (aUn_eq (tkd G.1 G.2) tmi (aRun (tkd G.1 G.2) tmi tmt d) M_130 [] 2 (10, [some (.int x0), some (.int x1), some (.int x2)], [], σ)).trans rfl
set_option maxRecDepth 20000 in
theorem q_62_2326 (G : Nat × (Nat → Int32)) (d : Nat) (x1 : Int32) (x2 : Int32) (σ : aH) : Lq G d M_62 (0, [some (.ref 33), some (.int x1), some (.int x2)], [], σ) = Lq G d M_62 (4, [some (.ref 33), some (.int x1), some (.int x2)], [.int (σ.1 33 0)], σ) :=
  (aUn_eq (tkd G.1 G.2) tmi (aRun (tkd G.1 G.2) tmi tmt d) M_62 [] 2 (0, [some (.ref 33), some (.int x1), some (.int x2)], [], σ)).trans rfl
set_option maxRecDepth 20000 in
theorem q_62_2327 (G : Nat × (Nat → Int32)) (d : Nat) (x1 : Int32) (x2 : Int32) (s0 : Int32) (σ : aH) : Lq G d M_62 (4, [some (.ref 33), some (.int x1), some (.int x2)], [.int s0], σ) = if s0 = 0 then Lq G d M_62 (7, [some (.ref 33), some (.int x1), some (.int x2)], [], σ) else Lq G d M_62 (16, [some (.ref 33), some (.int x1), some (.int x2)], [], σ) :=
  (aUn_eq (tkd G.1 G.2) tmi (aRun (tkd G.1 G.2) tmi tmt d) M_62 [] 1 (4, [some (.ref 33), some (.int x1), some (.int x2)], [.int s0], σ)).trans rfl
set_option maxRecDepth 20000 in
theorem q_62_2328 (G : Nat × (Nat → Int32)) (d : Nat) (x1 : Int32) (x2 : Int32) (σ : aH) : Lq G d M_62 (7, [some (.ref 33), some (.int x1), some (.int x2)], [], σ) = Lq G d M_62 (8, [some (.ref 33), some (.int x1), some (.int x2)], [.int x1], σ) :=
  (aUn_eq (tkd G.1 G.2) tmi (aRun (tkd G.1 G.2) tmi tmt d) M_62 [] 1 (7, [some (.ref 33), some (.int x1), some (.int x2)], [], σ)).trans rfl
set_option maxRecDepth 20000 in
theorem q_62_2329 (G : Nat × (Nat → Int32)) (d : Nat) (x1 : Int32) (x2 : Int32) (s0 : Int32) (σ : aH) : Lq G d M_62 (8, [some (.ref 33), some (.int x1), some (.int x2)], [.int s0], σ) = if s0 = 0 then Lq G d M_62 (11, [some (.ref 33), some (.int x1), some (.int x2)], [], σ) else Lq G d M_62 (16, [some (.ref 33), some (.int x1), some (.int x2)], [], σ) :=
  (aUn_eq (tkd G.1 G.2) tmi (aRun (tkd G.1 G.2) tmi tmt d) M_62 [] 1 (8, [some (.ref 33), some (.int x1), some (.int x2)], [.int s0], σ)).trans rfl
set_option maxRecDepth 20000 in
theorem q_62_2330 (G : Nat × (Nat → Int32)) (d : Nat) (x1 : Int32) (x2 : Int32) (σ : aH) : Lq G d M_62 (11, [some (.ref 33), some (.int x1), some (.int x2)], [], σ) = Lq G d M_62 (20, [some (.ref 33), some (.int x1), some (.int x2)], [.int x2], (aSI σ 33 0 x2)) :=
  (aUn_eq (tkd G.1 G.2) tmi (aRun (tkd G.1 G.2) tmi tmt d) M_62 [] 5 (11, [some (.ref 33), some (.int x1), some (.int x2)], [], σ)).trans rfl
set_option maxRecDepth 20000 in
theorem q_62_2331 (G : Nat × (Nat → Int32)) (d : Nat) (x1 : Int32) (x2 : Int32) (s0 : Int32) (σ : aH) : Lq G d M_62 (20, [some (.ref 33), some (.int x1), some (.int x2)], [.int s0], σ) = if s0 = 0 then Lq G d M_62 (23, [some (.ref 33), some (.int x1), some (.int x2)], [], σ) else Lq G d M_62 (27, [some (.ref 33), some (.int x1), some (.int x2)], [], σ) :=
  (aUn_eq (tkd G.1 G.2) tmi (aRun (tkd G.1 G.2) tmi tmt d) M_62 [] 1 (20, [some (.ref 33), some (.int x1), some (.int x2)], [.int s0], σ)).trans rfl
set_option maxRecDepth 20000 in
theorem q_62_2332 (G : Nat × (Nat → Int32)) (d : Nat) (x1 : Int32) (x2 : Int32) (σ : aH) : Lq G d M_62 (23, [some (.ref 33), some (.int x1), some (.int x2)], [], σ) = Lq G d M_62 (28, [some (.ref 33), some (.int x1), some (.int x2)], [.int (1 : Int32)], σ) :=
  (aUn_eq (tkd G.1 G.2) tmi (aRun (tkd G.1 G.2) tmi tmt d) M_62 [] 2 (23, [some (.ref 33), some (.int x1), some (.int x2)], [], σ)).trans rfl
set_option maxRecDepth 20000 in
theorem q_62_2333 (G : Nat × (Nat → Int32)) (d : Nat) (x1 : Int32) (x2 : Int32) (s0 : Int32) (σ : aH) : Lq G d M_62 (28, [some (.ref 33), some (.int x1), some (.int x2)], [.int s0], σ) = aNar .boolean (s0) (some (.inl (some (.int s0)), σ)) :=
  (aUn_eq (tkd G.1 G.2) tmi (aRun (tkd G.1 G.2) tmi tmt d) M_62 [] 1 (28, [some (.ref 33), some (.int x1), some (.int x2)], [.int s0], σ)).trans rfl
set_option maxRecDepth 20000 in
theorem q_62_2334 (G : Nat × (Nat → Int32)) (d : Nat) (x1 : Int32) (x2 : Int32) (σ : aH) : Lq G d M_62 (27, [some (.ref 33), some (.int x1), some (.int x2)], [], σ) = Lq G d M_62 (28, [some (.ref 33), some (.int x1), some (.int x2)], [.int (0 : Int32)], σ) :=
  (aUn_eq (tkd G.1 G.2) tmi (aRun (tkd G.1 G.2) tmi tmt d) M_62 [] 1 (27, [some (.ref 33), some (.int x1), some (.int x2)], [], σ)).trans rfl
set_option maxRecDepth 20000 in
theorem q_62_2335 (G : Nat × (Nat → Int32)) (d : Nat) (x1 : Int32) (x2 : Int32) (σ : aH) : Lq G d M_62 (16, [some (.ref 33), some (.int x1), some (.int x2)], [], σ) = Lq G d M_62 (20, [some (.ref 33), some (.int x1), some (.int x2)], [.int (σ.1 33 0)], σ) :=
  (aUn_eq (tkd G.1 G.2) tmi (aRun (tkd G.1 G.2) tmi tmt d) M_62 [] 2 (16, [some (.ref 33), some (.int x1), some (.int x2)], [], σ)).trans rfl
set_option maxRecDepth 20000 in
theorem q_131_2336 (G : Nat × (Nat → Int32)) (d : Nat)  (σ : aH) : Lq G d M_131 (0, [some (.ref 33), none], [], σ) = Lq G d M_131 (7, [some (.ref 33), some (.int (0 : Int32))], [], (aSI σ 33 49 (0 : Int32))) :=
  (aUn_eq (tkd G.1 G.2) tmi (aRun (tkd G.1 G.2) tmi tmt d) M_131 [] 5 (0, [some (.ref 33), none], [], σ)).trans rfl
set_option maxRecDepth 20000 in
theorem q_131_2337 (G : Nat × (Nat → Int32)) (d : Nat) (x1 : Int32) (σ : aH) : Lq G d M_131 (7, [some (.ref 33), some (.int x1)], [], σ) = Lq G d M_131 (12, [some (.ref 33), some (.int x1)], [.int (σ.1 33 12), .int x1], σ) :=
  (aUn_eq (tkd G.1 G.2) tmi (aRun (tkd G.1 G.2) tmi tmt d) M_131 [] 3 (7, [some (.ref 33), some (.int x1)], [], σ)).trans rfl
set_option maxRecDepth 20000 in
theorem q_131_2338 (G : Nat × (Nat → Int32)) (d : Nat) (x1 : Int32) (s0 : Int32) (s1 : Int32) (σ : aH) : Lq G d M_131 (12, [some (.ref 33), some (.int x1)], [.int s0, .int s1], σ) = if s0 ≤ s1 then Lq G d M_131 (53, [some (.ref 33), some (.int x1)], [], σ) else Lq G d M_131 (15, [some (.ref 33), some (.int x1)], [], σ) :=
  (aUn_eq (tkd G.1 G.2) tmi (aRun (tkd G.1 G.2) tmi tmt d) M_131 [] 1 (12, [some (.ref 33), some (.int x1)], [.int s0, .int s1], σ)).trans rfl
set_option maxRecDepth 20000 in
theorem q_131_2339 (G : Nat × (Nat → Int32)) (d : Nat) (x1 : Int32) (σ : aH) : Lq G d M_131 (53, [some (.ref 33), some (.int x1)], [], σ) = some (.inl none, σ) :=
  (aUn_eq (tkd G.1 G.2) tmi (aRun (tkd G.1 G.2) tmi tmt d) M_131 [] 1 (53, [some (.ref 33), some (.int x1)], [], σ)).trans rfl
set_option maxRecDepth 20000 in
theorem q_131_2340 (G : Nat × (Nat → Int32)) (d : Nat) (x1 : Int32) (σ : aH) : Lq G d M_131 (15, [some (.ref 33), some (.int x1)], [], σ) = Lq G d M_131 (17, [some (.ref 33), some (.int x1)], [.int x1, .ref 33], σ) :=
  (aUn_eq (tkd G.1 G.2) tmi (aRun (tkd G.1 G.2) tmi tmt d) M_131 [] 2 (15, [some (.ref 33), some (.int x1)], [], σ)).trans rfl
set_option maxRecDepth 20000 in
theorem q_131_2341 (G : Nat × (Nat → Int32)) (d : Nat) (x1 : Int32) (s0 : Int32) (σ : aH) : Lq G d M_131 (17, [some (.ref 33), some (.int x1)], [.int s0, .ref 33], σ) = aCI (Rn G d 132 [.ref 33, .int s0] σ) fun v2 σ1 => Lq G d M_131 (20, [some (.ref 33), some (.int x1)], [.int v2], σ1) :=
  (aUn_eq (tkd G.1 G.2) tmi (aRun (tkd G.1 G.2) tmi tmt d) M_131 [] 1 (17, [some (.ref 33), some (.int x1)], [.int s0, .ref 33], σ)).trans rfl
set_option maxRecDepth 20000 in
theorem q_131_2342 (G : Nat × (Nat → Int32)) (d : Nat) (x1 : Int32) (s0 : Int32) (σ : aH) : Lq G d M_131 (20, [some (.ref 33), some (.int x1)], [.int s0], σ) = Lq G d M_131 (21, [some (.ref 33), some (.int x1)], [.int (-1 : Int32), .int s0], σ) :=
  (aUn_eq (tkd G.1 G.2) tmi (aRun (tkd G.1 G.2) tmi tmt d) M_131 [] 1 (20, [some (.ref 33), some (.int x1)], [.int s0], σ)).trans rfl
set_option maxRecDepth 20000 in
theorem q_131_2343 (G : Nat × (Nat → Int32)) (d : Nat) (x1 : Int32) (s0 : Int32) (s1 : Int32) (σ : aH) : Lq G d M_131 (21, [some (.ref 33), some (.int x1)], [.int s0, .int s1], σ) = if s1 = s0 then Lq G d M_131 (27, [some (.ref 33), some (.int x1)], [], σ) else Lq G d M_131 (24, [some (.ref 33), some (.int x1)], [], σ) :=
  (aUn_eq (tkd G.1 G.2) tmi (aRun (tkd G.1 G.2) tmi tmt d) M_131 [] 1 (21, [some (.ref 33), some (.int x1)], [.int s0, .int s1], σ)).trans rfl
set_option maxRecDepth 20000 in
theorem q_131_2344 (G : Nat × (Nat → Int32)) (d : Nat) (x1 : Int32) (σ : aH) : Lq G d M_131 (27, [some (.ref 33), some (.int x1)], [], σ) = Lq G d M_131 (36, [some (.ref 33), some (.int x1)], [.int x1, .int (σ.1 33 49), .ref 56], σ) :=
  (aUn_eq (tkd G.1 G.2) tmi (aRun (tkd G.1 G.2) tmi tmt d) M_131 [] 5 (27, [some (.ref 33), some (.int x1)], [], σ)).trans rfl
set_option maxRecDepth 20000 in
theorem q_131_2345 (G : Nat × (Nat → Int32)) (d : Nat) (x1 : Int32) (s0 : Int32) (s1 : Int32) (σ : aH) : Lq G d M_131 (36, [some (.ref 33), some (.int x1)], [.int s0, .int s1, .ref 56], σ) = aIx (s1) 60 fun j1 => Lq G d M_131 (37, [some (.ref 33), some (.int x1)], [], (aSI σ 56 j1 s0)) :=
  (aUn_eq (tkd G.1 G.2) tmi (aRun (tkd G.1 G.2) tmi tmt d) M_131 [] 1 (36, [some (.ref 33), some (.int x1)], [.int s0, .int s1, .ref 56], σ)).trans rfl
set_option maxRecDepth 20000 in
theorem q_131_2346 (G : Nat × (Nat → Int32)) (d : Nat) (x1 : Int32) (σ : aH) : Lq G d M_131 (37, [some (.ref 33), some (.int x1)], [], σ) = Lq G d M_131 (7, [some (.ref 33), some (.int (x1 + (1 : Int32)))], [], (aSI σ 33 49 ((σ.1 33 49) + (1 : Int32)))) :=
  (aUn_eq (tkd G.1 G.2) tmi (aRun (tkd G.1 G.2) tmi tmt d) M_131 [] 8 (37, [some (.ref 33), some (.int x1)], [], σ)).trans rfl
set_option maxRecDepth 20000 in
theorem q_131_2347 (G : Nat × (Nat → Int32)) (d : Nat) (x1 : Int32) (σ : aH) : Lq G d M_131 (24, [some (.ref 33), some (.int x1)], [], σ) = Lq G d M_131 (7, [some (.ref 33), some (.int (x1 + (1 : Int32)))], [], σ) :=
  (aUn_eq (tkd G.1 G.2) tmi (aRun (tkd G.1 G.2) tmi tmt d) M_131 [] 3 (24, [some (.ref 33), some (.int x1)], [], σ)).trans rfl
set_option maxRecDepth 20000 in
theorem q_103_2348 (G : Nat × (Nat → Int32)) (d : Nat) (x1 : Int32) (x2 : Int32) (σ : aH) : Lq G d M_103 (0, [some (.ref 3), some (.int x1), some (.int x2)], [], σ) = Lq G d M_103 (1, [some (.ref 3), some (.int x1), some (.int x2)], [.int x2], σ) :=
  (aUn_eq (tkd G.1 G.2) tmi (aRun (tkd G.1 G.2) tmi tmt d) M_103 [] 1 (0, [some (.ref 3), some (.int x1), some (.int x2)], [], σ)).trans rfl
set_option maxRecDepth 20000 in
theorem q_103_2349 (G : Nat × (Nat → Int32)) (d : Nat) (x1 : Int32) (x2 : Int32) (s0 : Int32) (σ : aH) : Lq G d M_103 (1, [some (.ref 3), some (.int x1), some (.int x2)], [.int s0], σ) = if s0 < 0 then Lq G d M_103 (20, [some (.ref 3), some (.int x1), some (.int x2)], [], σ) else Lq G d M_103 (4, [some (.ref 3), some (.int x1), some (.int x2)], [], σ) :=
  (aUn_eq (tkd G.1 G.2) tmi (aRun (tkd G.1 G.2) tmi tmt d) M_103 [] 1 (1, [some (.ref 3), some (.int x1), some (.int x2)], [.int s0], σ)).trans rfl
set_option maxRecDepth 20000 in
theorem q_103_2350 (G : Nat × (Nat → Int32)) (d : Nat) (x1 : Int32) (x2 : Int32) (σ : aH) : Lq G d M_103 (20, [some (.ref 3), some (.int x1), some (.int x2)], [], σ) = Lq G d M_103 (21, [some (.ref 3), some (.int x1), some (.int x2)], [.int (0 : Int32)], σ) :=
  (aUn_eq (tkd G.1 G.2) tmi (aRun (tkd G.1 G.2) tmi tmt d) M_103 [] 1 (20, [some (.ref 3), some (.int x1), some (.int x2)], [], σ)).trans rfl
set_option maxRecDepth 20000 in
theorem q_103_2351 (G : Nat × (Nat → Int32)) (d : Nat) (x1 : Int32) (x2 : Int32) (s0 : Int32) (σ : aH) : Lq G d M_103 (21, [some (.ref 3), some (.int x1), some (.int x2)], [.int s0], σ) = aNar .boolean (s0) (some (.inl (some (.int s0)), σ)) :=
  (aUn_eq (tkd G.1 G.2) tmi (aRun (tkd G.1 G.2) tmi tmt d) M_103 [] 1 (21, [some (.ref 3), some (.int x1), some (.int x2)], [.int s0], σ)).trans rfl
set_option maxRecDepth 20000 in
theorem q_103_2352 (G : Nat × (Nat → Int32)) (d : Nat) (x1 : Int32) (x2 : Int32) (σ : aH) : Lq G d M_103 (4, [some (.ref 3), some (.int x1), some (.int x2)], [], σ) = Lq G d M_103 (10, [some (.ref 3), some (.int x1), some (.int x2)], [.int x1, .ref 4, .int x2], σ) :=
  (aUn_eq (tkd G.1 G.2) tmi (aRun (tkd G.1 G.2) tmi tmt d) M_103 [] 4 (4, [some (.ref 3), some (.int x1), some (.int x2)], [], σ)).trans rfl
set_option maxRecDepth 20000 in
theorem q_103_2353 (G : Nat × (Nat → Int32)) (d : Nat) (x1 : Int32) (x2 : Int32) (s0 : Int32) (s2 : Int32) (σ : aH) : Lq G d M_103 (10, [some (.ref 3), some (.int x1), some (.int x2)], [.int s0, .ref 4, .int s2], σ) = aCI (Rn G d 32 [.ref 4, .int s0] σ) fun v2 σ1 => Lq G d M_103 (13, [some (.ref 3), some (.int x1), some (.int x2)], [.int v2, .int s2], σ1) :=
  (aUn_eq (tkd G.1 G.2) tmi (aRun (tkd G.1 G.2) tmi tmt d) M_103 [] 1 (10, [some (.ref 3), some (.int x1), some (.int x2)], [.int s0, .ref 4, .int s2], σ)).trans rfl
set_option maxRecDepth 20000 in
theorem q_103_2354 (G : Nat × (Nat → Int32)) (d : Nat) (x1 : Int32) (x2 : Int32) (s0 : Int32) (s1 : Int32) (σ : aH) : Lq G d M_103 (13, [some (.ref 3), some (.int x1), some (.int x2)], [.int s0, .int s1], σ) = if s0 ≤ s1 then Lq G d M_103 (20, [some (.ref 3), some (.int x1), some (.int x2)], [], σ) else Lq G d M_103 (16, [some (.ref 3), some (.int x1), some (.int x2)], [], σ) :=
  (aUn_eq (tkd G.1 G.2) tmi (aRun (tkd G.1 G.2) tmi tmt d) M_103 [] 1 (13, [some (.ref 3), some (.int x1), some (.int x2)], [.int s0, .int s1], σ)).trans rfl
set_option maxRecDepth 20000 in
theorem q_103_2355 (G : Nat × (Nat → Int32)) (d : Nat) (x1 : Int32) (x2 : Int32) (σ : aH) : Lq G d M_103 (16, [some (.ref 3), some (.int x1), some (.int x2)], [], σ) = Lq G d M_103 (21, [some (.ref 3), some (.int x1), some (.int x2)], [.int (1 : Int32)], σ) :=
  (aUn_eq (tkd G.1 G.2) tmi (aRun (tkd G.1 G.2) tmi tmt d) M_103 [] 2 (16, [some (.ref 3), some (.int x1), some (.int x2)], [], σ)).trans rfl
set_option maxRecDepth 20000 in
theorem q_128_2356 (G : Nat × (Nat → Int32)) (d : Nat) (x1 : Int32) (σ : aH) : Lq G d M_128 (0, [some (.ref 17), some (.int x1)], [], σ) = Lq G d M_128 (5, [some (.ref 17), some (.int x1)], [.int x1, .ref 21], σ) :=
  (aUn_eq (tkd G.1 G.2) tmi (aRun (tkd G.1 G.2) tmi tmt d) M_128 [] 3 (0, [some (.ref 17), some (.int x1)], [], σ)).trans rfl
set_option maxRecDepth 20000 in
theorem q_128_2357 (G : Nat × (Nat → Int32)) (d : Nat) (x1 : Int32) (s0 : Int32) (σ : aH) : Lq G d M_128 (5, [some (.ref 17), some (.int x1)], [.int s0, .ref 21], σ) = aCI (Rn G d 32 [.ref 21, .int s0] σ) fun v2 σ1 => Lq G d M_128 (8, [some (.ref 17), some (.int x1)], [.int v2], σ1) :=
  (aUn_eq (tkd G.1 G.2) tmi (aRun (tkd G.1 G.2) tmi tmt d) M_128 [] 1 (5, [some (.ref 17), some (.int x1)], [.int s0, .ref 21], σ)).trans rfl
set_option maxRecDepth 20000 in
theorem q_128_2358 (G : Nat × (Nat → Int32)) (d : Nat) (x1 : Int32) (s0 : Int32) (σ : aH) : Lq G d M_128 (8, [some (.ref 17), some (.int x1)], [.int s0], σ) = if s0 ≤ 0 then Lq G d M_128 (15, [some (.ref 17), some (.int x1)], [], σ) else Lq G d M_128 (11, [some (.ref 17), some (.int x1)], [], σ) :=
  (aUn_eq (tkd G.1 G.2) tmi (aRun (tkd G.1 G.2) tmi tmt d) M_128 [] 1 (8, [some (.ref 17), some (.int x1)], [.int s0], σ)).trans rfl
set_option maxRecDepth 20000 in
theorem q_128_2359 (G : Nat × (Nat → Int32)) (d : Nat) (x1 : Int32) (σ : aH) : Lq G d M_128 (15, [some (.ref 17), some (.int x1)], [], σ) = Lq G d M_128 (16, [some (.ref 17), some (.int x1)], [.int (0 : Int32)], σ) :=
  (aUn_eq (tkd G.1 G.2) tmi (aRun (tkd G.1 G.2) tmi tmt d) M_128 [] 1 (15, [some (.ref 17), some (.int x1)], [], σ)).trans rfl
set_option maxRecDepth 20000 in
theorem q_128_2360 (G : Nat × (Nat → Int32)) (d : Nat) (x1 : Int32) (s0 : Int32) (σ : aH) : Lq G d M_128 (16, [some (.ref 17), some (.int x1)], [.int s0], σ) = aNar .boolean (s0) (some (.inl (some (.int s0)), σ)) :=
  (aUn_eq (tkd G.1 G.2) tmi (aRun (tkd G.1 G.2) tmi tmt d) M_128 [] 1 (16, [some (.ref 17), some (.int x1)], [.int s0], σ)).trans rfl
set_option maxRecDepth 20000 in
theorem q_128_2361 (G : Nat × (Nat → Int32)) (d : Nat) (x1 : Int32) (σ : aH) : Lq G d M_128 (11, [some (.ref 17), some (.int x1)], [], σ) = Lq G d M_128 (16, [some (.ref 17), some (.int x1)], [.int (1 : Int32)], σ) :=
  (aUn_eq (tkd G.1 G.2) tmi (aRun (tkd G.1 G.2) tmi tmt d) M_128 [] 2 (11, [some (.ref 17), some (.int x1)], [], σ)).trans rfl
set_option maxRecDepth 20000 in
theorem q_119_2362 (G : Nat × (Nat → Int32)) (d : Nat) (x1 : Int32) (x2 : Int32) (x3 : Int32) (σ : aH) : Lq G d M_119 (0, [some (.ref 3), some (.int x1), some (.int x2), some (.int x3)], [], σ) = Lq G d M_119 (8, [some (.ref 3), some (.int x1), some (.int x2), some (.int x3)], [.int x1, .ref 64, .ref 5], σ) :=
  (aUn_eq (tkd G.1 G.2) tmi (aRun (tkd G.1 G.2) tmi tmt d) M_119 [] 4 (0, [some (.ref 3), some (.int x1), some (.int x2), some (.int x3)], [], σ)).trans rfl
set_option maxRecDepth 20000 in
theorem q_119_2363 (G : Nat × (Nat → Int32)) (d : Nat) (x1 : Int32) (x2 : Int32) (x3 : Int32) (s0 : Int32) (σ : aH) : Lq G d M_119 (8, [some (.ref 3), some (.int x1), some (.int x2), some (.int x3)], [.int s0, .ref 64, .ref 5], σ) = aCI (Rn G d 32 [.ref 64, .int s0] σ) fun v2 σ1 => Lq G d M_119 (11, [some (.ref 3), some (.int x1), some (.int x2), some (.int x3)], [.int v2, .ref 5], σ1) :=
  (aUn_eq (tkd G.1 G.2) tmi (aRun (tkd G.1 G.2) tmi tmt d) M_119 [] 1 (8, [some (.ref 3), some (.int x1), some (.int x2), some (.int x3)], [.int s0, .ref 64, .ref 5], σ)).trans rfl
set_option maxRecDepth 20000 in
theorem q_119_2364 (G : Nat × (Nat → Int32)) (d : Nat) (x1 : Int32) (x2 : Int32) (x3 : Int32) (s0 : Int32) (σ : aH) : Lq G d M_119 (11, [some (.ref 3), some (.int x1), some (.int x2), some (.int x3)], [.int s0, .ref 5], σ) = Lq G d M_119 (16, [some (.ref 3), some (.int x1), some (.int x2), some (.int x3)], [.int x1, .ref 66, .int x2, .int s0, .ref 5], σ) :=
  (aUn_eq (tkd G.1 G.2) tmi (aRun (tkd G.1 G.2) tmi tmt d) M_119 [] 3 (11, [some (.ref 3), some (.int x1), some (.int x2), some (.int x3)], [.int s0, .ref 5], σ)).trans rfl
set_option maxRecDepth 20000 in
theorem q_119_2365 (G : Nat × (Nat → Int32)) (d : Nat) (x1 : Int32) (x2 : Int32) (x3 : Int32) (s0 : Int32) (s2 : Int32) (s3 : Int32) (σ : aH) : Lq G d M_119 (16, [some (.ref 3), some (.int x1), some (.int x2), some (.int x3)], [.int s0, .ref 66, .int s2, .int s3, .ref 5], σ) = aCI (Rn G d 32 [.ref 66, .int s0] σ) fun v2 σ1 => Lq G d M_119 (19, [some (.ref 3), some (.int x1), some (.int x2), some (.int x3)], [.int v2, .int s2, .int s3, .ref 5], σ1) :=
  (aUn_eq (tkd G.1 G.2) tmi (aRun (tkd G.1 G.2) tmi tmt d) M_119 [] 1 (16, [some (.ref 3), some (.int x1), some (.int x2), some (.int x3)], [.int s0, .ref 66, .int s2, .int s3, .ref 5], σ)).trans rfl
set_option maxRecDepth 20000 in
theorem q_119_2366 (G : Nat × (Nat → Int32)) (d : Nat) (x1 : Int32) (x2 : Int32) (x3 : Int32) (s0 : Int32) (s1 : Int32) (s2 : Int32) (σ : aH) : Lq G d M_119 (19, [some (.ref 3), some (.int x1), some (.int x2), some (.int x3)], [.int s0, .int s1, .int s2, .ref 5], σ) = Lq G d M_119 (23, [some (.ref 3), some (.int x1), some (.int x2), some (.int x3)], [.int ((s2 + (s1 * s0)) + x3), .ref 5], σ) :=
  (aUn_eq (tkd G.1 G.2) tmi (aRun (tkd G.1 G.2) tmi tmt d) M_119 [] 4 (19, [some (.ref 3), some (.int x1), some (.int x2), some (.int x3)], [.int s0, .int s1, .int s2, .ref 5], σ)).trans rfl
set_option maxRecDepth 20000 in
theorem q_119_2367 (G : Nat × (Nat → Int32)) (d : Nat) (x1 : Int32) (x2 : Int32) (x3 : Int32) (s0 : Int32) (σ : aH) : Lq G d M_119 (23, [some (.ref 3), some (.int x1), some (.int x2), some (.int x3)], [.int s0, .ref 5], σ) = aCI (Rn G d 32 [.ref 5, .int s0] σ) fun v2 σ1 => Lq G d M_119 (26, [some (.ref 3), some (.int x1), some (.int x2), some (.int x3)], [.int v2], σ1) :=
  (aUn_eq (tkd G.1 G.2) tmi (aRun (tkd G.1 G.2) tmi tmt d) M_119 [] 1 (23, [some (.ref 3), some (.int x1), some (.int x2), some (.int x3)], [.int s0, .ref 5], σ)).trans rfl
set_option maxRecDepth 20000 in
theorem q_119_2368 (G : Nat × (Nat → Int32)) (d : Nat) (x1 : Int32) (x2 : Int32) (x3 : Int32) (s0 : Int32) (σ : aH) : Lq G d M_119 (26, [some (.ref 3), some (.int x1), some (.int x2), some (.int x3)], [.int s0], σ) = some (.inl (some (.int s0)), σ) :=
  (aUn_eq (tkd G.1 G.2) tmi (aRun (tkd G.1 G.2) tmi tmt d) M_119 [] 1 (26, [some (.ref 3), some (.int x1), some (.int x2), some (.int x3)], [.int s0], σ)).trans rfl
set_option maxRecDepth 20000 in
theorem q_137_2369 (G : Nat × (Nat → Int32)) (d : Nat) (x1 : Int32) (σ : aH) : Lq G d M_137 (0, [some (.ref 33), some (.int x1), none, none], [], σ) = Lq G d M_137 (4, [some (.ref 33), some (.int x1), some (.int (0 : Int32)), some (.int (0 : Int32))], [], σ) :=
  (aUn_eq (tkd G.1 G.2) tmi (aRun (tkd G.1 G.2) tmi tmt d) M_137 [] 4 (0, [some (.ref 33), some (.int x1), none, none], [], σ)).trans rfl
set_option maxRecDepth 20000 in
theorem q_137_2370 (G : Nat × (Nat → Int32)) (d : Nat) (x1 : Int32) (x2 : Int32) (x3 : Int32) (σ : aH) : Lq G d M_137 (4, [some (.ref 33), some (.int x1), some (.int x2), some (.int x3)], [], σ) = Lq G d M_137 (9, [some (.ref 33), some (.int x1), some (.int x2), some (.int x3)], [.int (σ.1 33 12), .int x3], σ) :=
  (aUn_eq (tkd G.1 G.2) tmi (aRun (tkd G.1 G.2) tmi tmt d) M_137 [] 3 (4, [some (.ref 33), some (.int x1), some (.int x2), some (.int x3)], [], σ)).trans rfl
set_option maxRecDepth 20000 in
theorem q_137_2371 (G : Nat × (Nat → Int32)) (d : Nat) (x1 : Int32) (x2 : Int32) (x3 : Int32) (s0 : Int32) (s1 : Int32) (σ : aH) : Lq G d M_137 (9, [some (.ref 33), some (.int x1), some (.int x2), some (.int x3)], [.int s0, .int s1], σ) = if s0 ≤ s1 then Lq G d M_137 (47, [some (.ref 33), some (.int x1), some (.int x2), some (.int x3)], [], σ) else Lq G d M_137 (12, [some (.ref 33), some (.int x1), some (.int x2), some (.int x3)], [], σ) :=
  (aUn_eq (tkd G.1 G.2) tmi (aRun (tkd G.1 G.2) tmi tmt d) M_137 [] 1 (9, [some (.ref 33), some (.int x1), some (.int x2), some (.int x3)], [.int s0, .int s1], σ)).trans rfl
set_option maxRecDepth 20000 in
theorem q_137_2372 (G : Nat × (Nat → Int32)) (d : Nat) (x1 : Int32) (x2 : Int32) (x3 : Int32) (σ : aH) : Lq G d M_137 (47, [some (.ref 33), some (.int x1), some (.int x2), some (.int x3)], [], σ) = Lq G d M_137 (48, [some (.ref 33), some (.int x1), some (.int x2), some (.int x3)], [.int x2], σ) :=
  (aUn_eq (tkd G.1 G.2) tmi (aRun (tkd G.1 G.2) tmi tmt d) M_137 [] 1 (47, [some (.ref 33), some (.int x1), some (.int x2), some (.int x3)], [], σ)).trans rfl
