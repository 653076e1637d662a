/-! ===== the methods in pieces, as equations (by wip/gen/emit_eqs2.py) ===== -/
set_option maxRecDepth 20000 in
theorem q_239_2955 (G : Nat × (Nat → Int32)) (d : Nat) (x1 : Int32) (x2 : Int32) (σ : aH) : Lq G d M_239 (0, [some (.ref 33), some (.int x1), some (.int x2)], [], σ) = Lq G d M_239 (2, [some (.ref 33), some (.int x1), some (.int x2)], [.int x2, .ref 33], σ) :=
  (aUn_eq (tkd G.1 G.2) tmi (aRun (tkd G.1 G.2) tmi tmt d) M_239 [] 2 (0, [some (.ref 33), some (.int x1), some (.int x2)], [], σ)).trans rfl
set_option maxRecDepth 20000 in
theorem q_239_2956 (G : Nat × (Nat → Int32)) (d : Nat) (x1 : Int32) (x2 : Int32) (s0 : Int32) (σ : aH) : Lq G d M_239 (2, [some (.ref 33), some (.int x1), some (.int x2)], [.int s0, .ref 33], σ) = aCV (Rn G d 227 [.ref 33, .int s0] σ) fun σ1 => Lq G d M_239 (5, [some (.ref 33), some (.int x1), some (.int x2)], [], σ1) :=
  (aUn_eq (tkd G.1 G.2) tmi (aRun (tkd G.1 G.2) tmi tmt d) M_239 [] 1 (2, [some (.ref 33), some (.int x1), some (.int x2)], [.int s0, .ref 33], σ)).trans rfl
set_option maxRecDepth 20000 in
theorem q_239_2957 (G : Nat × (Nat → Int32)) (d : Nat) (x1 : Int32) (x2 : Int32) (σ : aH) : Lq G d M_239 (5, [some (.ref 33), some (.int x1), some (.int x2)], [], σ) = Lq G d M_239 (7, [some (.ref 33), some (.int x1), some (.int x2)], [.int x1, .ref 33], σ) :=
  (aUn_eq (tkd G.1 G.2) tmi (aRun (tkd G.1 G.2) tmi tmt d) M_239 [] 2 (5, [some (.ref 33), some (.int x1), some (.int x2)], [], σ)).trans rfl
set_option maxRecDepth 20000 in
theorem q_239_2958 (G : Nat × (Nat → Int32)) (d : Nat) (x1 : Int32) (x2 : Int32) (s0 : Int32) (σ : aH) : Lq G d M_239 (7, [some (.ref 33), some (.int x1), some (.int x2)], [.int s0, .ref 33], σ) = aCI (Rn G d 180 [.ref 33, .int s0] σ) fun v2 σ1 => Lq G d M_239 (10, [some (.ref 33), some (.int x1), some (.int x2)], [.int v2], σ1) :=
  (aUn_eq (tkd G.1 G.2) tmi (aRun (tkd G.1 G.2) tmi tmt d) M_239 [] 1 (7, [some (.ref 33), some (.int x1), some (.int x2)], [.int s0, .ref 33], σ)).trans rfl
set_option maxRecDepth 20000 in
theorem q_239_2959 (G : Nat × (Nat → Int32)) (d : Nat) (x1 : Int32) (x2 : Int32) (s0 : Int32) (σ : aH) : Lq G d M_239 (10, [some (.ref 33), some (.int x1), some (.int x2)], [.int s0], σ) = some (.inl (some (.int s0)), σ) :=
  (aUn_eq (tkd G.1 G.2) tmi (aRun (tkd G.1 G.2) tmi tmt d) M_239 [] 1 (10, [some (.ref 33), some (.int x1), some (.int x2)], [.int s0], σ)).trans rfl
set_option maxRecDepth 20000 in
theorem q_240_2960 (G : Nat × (Nat → Int32)) (d : Nat) (x0 : Int32) (x1 : Int32) (σ : aH) : Lq G d M_240 (0, [some (.int x0), some (.int x1)], [], σ) = Lq G d M_240 (2, [some (.int x0), some (.int x1)], [.int x1, .int x0], σ) :=
  (aUn_eq (tkd G.1 G.2) tmi (aRun (tkd G.1 G.2) tmi tmt d) M_240 [] 2 (0, [some (.int x0), some (.int x1)], [], σ)).trans rfl
set_option maxRecDepth 20000 in
theorem q_240_2961 (G : Nat × (Nat → Int32)) (d : Nat) (x0 : Int32) (x1 : Int32) (s0 : Int32) (s1 : Int32) (σ : aH) : Lq G d M_240 (2, [some (.int x0), some (.int x1)], [.int s0, .int s1], σ) = if s0 ≤ s1 then Lq G d M_240 (11, [some (.int x0), some (.int x1)], [], σ) else Lq G d M_240 (5, [some (.int x0), some (.int x1)], [], σ) :=
  (aUn_eq (tkd G.1 G.2) tmi (aRun (tkd G.1 G.2) tmi tmt d) M_240 [] 1 (2, [some (.int x0), some (.int x1)], [.int s0, .int s1], σ)).trans rfl
set_option maxRecDepth 20000 in
theorem q_240_2962 (G : Nat × (Nat → Int32)) (d : Nat) (x0 : Int32) (x1 : Int32) (σ : aH) : Lq G d M_240 (11, [some (.int x0), some (.int x1)], [], σ) = Lq G d M_240 (14, [some (.int x0), some (.int x1)], [.int (x0 - x1)], σ) :=
  (aUn_eq (tkd G.1 G.2) tmi (aRun (tkd G.1 G.2) tmi tmt d) M_240 [] 3 (11, [some (.int x0), some (.int x1)], [], σ)).trans rfl
set_option maxRecDepth 20000 in
theorem q_240_2963 (G : Nat × (Nat → Int32)) (d : Nat) (x0 : Int32) (x1 : Int32) (s0 : Int32) (σ : aH) : Lq G d M_240 (14, [some (.int x0), some (.int x1)], [.int s0], σ) = some (.inl (some (.int s0)), σ) :=
  (aUn_eq (tkd G.1 G.2) tmi (aRun (tkd G.1 G.2) tmi tmt d) M_240 [] 1 (14, [some (.int x0), some (.int x1)], [.int s0], σ)).trans rfl
set_option maxRecDepth 20000 in
theorem q_240_2964 (G : Nat × (Nat → Int32)) (d : Nat) (x0 : Int32) (x1 : Int32) (σ : aH) : Lq G d M_240 (5, [some (.int x0), some (.int x1)], [], σ) = Lq G d M_240 (14, [some (.int x0), some (.int x1)], [.int (x1 - x0)], σ) :=
  (aUn_eq (tkd G.1 G.2) tmi (aRun (tkd G.1 G.2) tmi tmt d) M_240 [] 4 (5, [some (.int x0), some (.int x1)], [], σ)).trans rfl
set_option maxRecDepth 20000 in
theorem q_241_2965 (G : Nat × (Nat → Int32)) (d : Nat) (x1 : Int32) (σ : aH) : Lq G d M_241 (0, [some (.ref 33), some (.int x1)], [], σ) = Lq G d M_241 (11, [some (.ref 33), some (.int x1)], [.int (((17 : Int32) * x1) + (16 : Int32)), .ref 40], σ) :=
  (aUn_eq (tkd G.1 G.2) tmi (aRun (tkd G.1 G.2) tmi tmt d) M_241 [] 7 (0, [some (.ref 33), some (.int x1)], [], σ)).trans rfl
set_option maxRecDepth 20000 in
theorem q_241_2966 (G : Nat × (Nat → Int32)) (d : Nat) (x1 : Int32) (s0 : Int32) (σ : aH) : Lq G d M_241 (11, [some (.ref 33), some (.int x1)], [.int s0, .ref 40], σ) = aIx (s0) 1020 fun j1 => Lq G d M_241 (12, [some (.ref 33), some (.int x1)], [.int (σ.1 40 j1)], σ) :=
  (aUn_eq (tkd G.1 G.2) tmi (aRun (tkd G.1 G.2) tmi tmt d) M_241 [] 1 (11, [some (.ref 33), some (.int x1)], [.int s0, .ref 40], σ)).trans rfl
set_option maxRecDepth 20000 in
theorem q_241_2967 (G : Nat × (Nat → Int32)) (d : Nat) (x1 : Int32) (s0 : Int32) (σ : aH) : Lq G d M_241 (12, [some (.ref 33), some (.int x1)], [.int s0], σ) = some (.inl (some (.int s0)), σ) :=
  (aUn_eq (tkd G.1 G.2) tmi (aRun (tkd G.1 G.2) tmi tmt d) M_241 [] 1 (12, [some (.ref 33), some (.int x1)], [.int s0], σ)).trans rfl
set_option maxRecDepth 20000 in
theorem q_242_2968 (G : Nat × (Nat → Int32)) (d : Nat) (x0 : Int32) (x1 : Int32) (σ : aH) : Lq G d M_242 (0, [some (.int x0), some (.int x1)], [], σ) = Lq G d M_242 (2, [some (.int x0), some (.int x1)], [.int x1, .int x0], σ) :=
  (aUn_eq (tkd G.1 G.2) tmi (aRun (tkd G.1 G.2) tmi tmt d) M_242 [] 2 (0, [some (.int x0), some (.int x1)], [], σ)).trans rfl
set_option maxRecDepth 20000 in
theorem q_242_2969 (G : Nat × (Nat → Int32)) (d : Nat) (x0 : Int32) (x1 : Int32) (s0 : Int32) (s1 : Int32) (σ : aH) : Lq G d M_242 (2, [some (.int x0), some (.int x1)], [.int s0, .int s1], σ) = if s0 ≤ s1 then Lq G d M_242 (9, [some (.int x0), some (.int x1)], [], σ) else Lq G d M_242 (5, [some (.int x0), some (.int x1)], [], σ) :=
  (aUn_eq (tkd G.1 G.2) tmi (aRun (tkd G.1 G.2) tmi tmt d) M_242 [] 1 (2, [some (.int x0), some (.int x1)], [.int s0, .int s1], σ)).trans rfl
set_option maxRecDepth 20000 in
theorem q_242_2970 (G : Nat × (Nat → Int32)) (d : Nat) (x0 : Int32) (x1 : Int32) (σ : aH) : Lq G d M_242 (9, [some (.int x0), some (.int x1)], [], σ) = Lq G d M_242 (11, [some (.int x0), some (.int x1)], [.int x1, .int x0], σ) :=
  (aUn_eq (tkd G.1 G.2) tmi (aRun (tkd G.1 G.2) tmi tmt d) M_242 [] 2 (9, [some (.int x0), some (.int x1)], [], σ)).trans rfl
set_option maxRecDepth 20000 in
theorem q_242_2971 (G : Nat × (Nat → Int32)) (d : Nat) (x0 : Int32) (x1 : Int32) (s0 : Int32) (s1 : Int32) (σ : aH) : Lq G d M_242 (11, [some (.int x0), some (.int x1)], [.int s0, .int s1], σ) = if s1 ≤ s0 then Lq G d M_242 (18, [some (.int x0), some (.int x1)], [], σ) else Lq G d M_242 (14, [some (.int x0), some (.int x1)], [], σ) :=
  (aUn_eq (tkd G.1 G.2) tmi (aRun (tkd G.1 G.2) tmi tmt d) M_242 [] 1 (11, [some (.int x0), some (.int x1)], [.int s0, .int s1], σ)).trans rfl
set_option maxRecDepth 20000 in
theorem q_242_2972 (G : Nat × (Nat → Int32)) (d : Nat) (x0 : Int32) (x1 : Int32) (σ : aH) : Lq G d M_242 (18, [some (.int x0), some (.int x1)], [], σ) = Lq G d M_242 (19, [some (.int x0), some (.int x1)], [.int (0 : Int32)], σ) :=
  (aUn_eq (tkd G.1 G.2) tmi (aRun (tkd G.1 G.2) tmi tmt d) M_242 [] 1 (18, [some (.int x0), some (.int x1)], [], σ)).trans rfl
set_option maxRecDepth 20000 in
theorem q_242_2973 (G : Nat × (Nat → Int32)) (d : Nat) (x0 : Int32) (x1 : Int32) (s0 : Int32) (σ : aH) : Lq G d M_242 (19, [some (.int x0), some (.int x1)], [.int s0], σ) = some (.inl (some (.int s0)), σ) :=
  (aUn_eq (tkd G.1 G.2) tmi (aRun (tkd G.1 G.2) tmi tmt d) M_242 [] 1 (19, [some (.int x0), some (.int x1)], [.int s0], σ)).trans rfl
set_option maxRecDepth 20000 in
theorem q_242_2974 (G : Nat × (Nat → Int32)) (d : Nat) (x0 : Int32) (x1 : Int32) (σ : aH) : Lq G d M_242 (14, [some (.int x0), some (.int x1)], [], σ) = Lq G d M_242 (19, [some (.int x0), some (.int x1)], [.int (1 : Int32)], σ) :=
  (aUn_eq (tkd G.1 G.2) tmi (aRun (tkd G.1 G.2) tmi tmt d) M_242 [] 2 (14, [some (.int x0), some (.int x1)], [], σ)).trans rfl
set_option maxRecDepth 20000 in
theorem q_242_2975 (G : Nat × (Nat → Int32)) (d : Nat) (x0 : Int32) (x1 : Int32) (σ : aH) : Lq G d M_242 (5, [some (.int x0), some (.int x1)], [], σ) = Lq G d M_242 (19, [some (.int x0), some (.int x1)], [.int (-1 : Int32)], σ) :=
  (aUn_eq (tkd G.1 G.2) tmi (aRun (tkd G.1 G.2) tmi tmt d) M_242 [] 2 (5, [some (.int x0), some (.int x1)], [], σ)).trans rfl
set_option maxRecDepth 20000 in
theorem q_245_2976 (G : Nat × (Nat → Int32)) (d : Nat) (x1 : Int32) (x2 : Int32) (σ : aH) : Lq G d M_245 (0, [some (.ref 0), some (.int x1), some (.int x2), none, none], [], σ) = Lq G d M_245 (5, [some (.ref 0), some (.int x1), some (.int x2), none, none], [.int x1, .ref 17], σ) :=
  (aUn_eq (tkd G.1 G.2) tmi (aRun (tkd G.1 G.2) tmi tmt d) M_245 [] 3 (0, [some (.ref 0), some (.int x1), some (.int x2), none, none], [], σ)).trans rfl
set_option maxRecDepth 20000 in
theorem q_245_2977 (G : Nat × (Nat → Int32)) (d : Nat) (x1 : Int32) (x2 : Int32) (s0 : Int32) (σ : aH) : Lq G d M_245 (5, [some (.ref 0), some (.int x1), some (.int x2), none, none], [.int s0, .ref 17], σ) = aCI (Rn G d 121 [.ref 17, .int s0] σ) fun v2 σ1 => Lq G d M_245 (8, [some (.ref 0), some (.int x1), some (.int x2), none, none], [.int v2], σ1) :=
  (aUn_eq (tkd G.1 G.2) tmi (aRun (tkd G.1 G.2) tmi tmt d) M_245 [] 1 (5, [some (.ref 0), some (.int x1), some (.int x2), none, none], [.int s0, .ref 17], σ)).trans rfl
set_option maxRecDepth 20000 in
theorem q_245_2978 (G : Nat × (Nat → Int32)) (d : Nat) (x1 : Int32) (x2 : Int32) (s0 : Int32) (σ : aH) : Lq G d M_245 (8, [some (.ref 0), some (.int x1), some (.int x2), none, none], [.int s0], σ) = Lq G d M_245 (13, [some (.ref 0), some (.int x1), some (.int x2), none, none], [.int x2, .ref 17, .int s0], σ) :=
  (aUn_eq (tkd G.1 G.2) tmi (aRun (tkd G.1 G.2) tmi tmt d) M_245 [] 3 (8, [some (.ref 0), some (.int x1), some (.int x2), none, none], [.int s0], σ)).trans rfl
set_option maxRecDepth 20000 in
theorem q_245_2979 (G : Nat × (Nat → Int32)) (d : Nat) (x1 : Int32) (x2 : Int32) (s0 : Int32) (s2 : Int32) (σ : aH) : Lq G d M_245 (13, [some (.ref 0), some (.int x1), some (.int x2), none, none], [.int s0, .ref 17, .int s2], σ) = aCI (Rn G d 121 [.ref 17, .int s0] σ) fun v2 σ1 => Lq G d M_245 (16, [some (.ref 0), some (.int x1), some (.int x2), none, none], [.int v2, .int s2], σ1) :=
  (aUn_eq (tkd G.1 G.2) tmi (aRun (tkd G.1 G.2) tmi tmt d) M_245 [] 1 (13, [some (.ref 0), some (.int x1), some (.int x2), none, none], [.int s0, .ref 17, .int s2], σ)).trans rfl
set_option maxRecDepth 20000 in
theorem q_245_2980 (G : Nat × (Nat → Int32)) (d : Nat) (x1 : Int32) (x2 : Int32) (s0 : Int32) (s1 : Int32) (σ : aH) : Lq G d M_245 (16, [some (.ref 0), some (.int x1), some (.int x2), none, none], [.int s0, .int s1], σ) = aCI (Rn G d 237 [.int s1, .int s0] σ) fun v2 σ1 => Lq G d M_245 (19, [some (.ref 0), some (.int x1), some (.int x2), none, none], [.int v2], σ1) :=
  (aUn_eq (tkd G.1 G.2) tmi (aRun (tkd G.1 G.2) tmi tmt d) M_245 [] 1 (16, [some (.ref 0), some (.int x1), some (.int x2), none, none], [.int s0, .int s1], σ)).trans rfl
set_option maxRecDepth 20000 in
theorem q_245_2981 (G : Nat × (Nat → Int32)) (d : Nat) (x1 : Int32) (x2 : Int32) (s0 : Int32) (σ : aH) : Lq G d M_245 (19, [some (.ref 0), some (.int x1), some (.int x2), none, none], [.int s0], σ) = Lq G d M_245 (27, [some (.ref 0), some (.int x1), some (.int x2), some (.int s0), none], [.int (12 : Int32), .int x1, .ref 13], σ) :=
  (aUn_eq (tkd G.1 G.2) tmi (aRun (tkd G.1 G.2) tmi tmt d) M_245 [] 5 (19, [some (.ref 0), some (.int x1), some (.int x2), none, none], [.int s0], σ)).trans rfl
set_option maxRecDepth 20000 in
theorem q_245_2982 (G : Nat × (Nat → Int32)) (d : Nat) (x1 : Int32) (x2 : Int32) (x3 : Int32) (s0 : Int32) (s1 : Int32) (σ : aH) : Lq G d M_245 (27, [some (.ref 0), some (.int x1), some (.int x2), some (.int x3), none], [.int s0, .int s1, .ref 13], σ) = aCI (Rn G d 117 [.ref 13, .int s1, .int s0] σ) fun v2 σ1 => Lq G d M_245 (30, [some (.ref 0), some (.int x1), some (.int x2), some (.int x3), none], [.int v2], σ1) :=
  (aUn_eq (tkd G.1 G.2) tmi (aRun (tkd G.1 G.2) tmi tmt d) M_245 [] 1 (27, [some (.ref 0), some (.int x1), some (.int x2), some (.int x3), none], [.int s0, .int s1, .ref 13], σ)).trans rfl
set_option maxRecDepth 20000 in
theorem q_245_2983 (G : Nat × (Nat → Int32)) (d : Nat) (x1 : Int32) (x2 : Int32) (x3 : Int32) (s0 : Int32) (σ : aH) : Lq G d M_245 (30, [some (.ref 0), some (.int x1), some (.int x2), some (.int x3), none], [.int s0], σ) = Lq G d M_245 (37, [some (.ref 0), some (.int x1), some (.int x2), some (.int x3), none], [.int (12 : Int32), .int x2, .ref 13, .int s0], σ) :=
  (aUn_eq (tkd G.1 G.2) tmi (aRun (tkd G.1 G.2) tmi tmt d) M_245 [] 4 (30, [some (.ref 0), some (.int x1), some (.int x2), some (.int x3), none], [.int s0], σ)).trans rfl
set_option maxRecDepth 20000 in
theorem q_245_2984 (G : Nat × (Nat → Int32)) (d : Nat) (x1 : Int32) (x2 : Int32) (x3 : Int32) (s0 : Int32) (s1 : Int32) (s3 : Int32) (σ : aH) : Lq G d M_245 (37, [some (.ref 0), some (.int x1), some (.int x2), some (.int x3), none], [.int s0, .int s1, .ref 13, .int s3], σ) = aCI (Rn G d 117 [.ref 13, .int s1, .int s0] σ) fun v2 σ1 => Lq G d M_245 (40, [some (.ref 0), some (.int x1), some (.int x2), some (.int x3), none], [.int v2, .int s3], σ1) :=
  (aUn_eq (tkd G.1 G.2) tmi (aRun (tkd G.1 G.2) tmi tmt d) M_245 [] 1 (37, [some (.ref 0), some (.int x1), some (.int x2), some (.int x3), none], [.int s0, .int s1, .ref 13, .int s3], σ)).trans rfl
set_option maxRecDepth 20000 in
theorem q_245_2985 (G : Nat × (Nat → Int32)) (d : Nat) (x1 : Int32) (x2 : Int32) (x3 : Int32) (s0 : Int32) (s1 : Int32) (σ : aH) : Lq G d M_245 (40, [some (.ref 0), some (.int x1), some (.int x2), some (.int x3), none], [.int s0, .int s1], σ) = aCI (Rn G d 237 [.int s1, .int s0] σ) fun v2 σ1 => Lq G d M_245 (43, [some (.ref 0), some (.int x1), some (.int x2), some (.int x3), none], [.int v2], σ1) :=
  (aUn_eq (tkd G.1 G.2) tmi (aRun (tkd G.1 G.2) tmi tmt d) M_245 [] 1 (40, [some (.ref 0), some (.int x1), some (.int x2), some (.int x3), none], [.int s0, .int s1], σ)).trans rfl
set_option maxRecDepth 20000 in
theorem q_245_2986 (G : Nat × (Nat → Int32)) (d : Nat) (x1 : Int32) (x2 : Int32) (x3 : Int32) (s0 : Int32) (σ : aH) : Lq G d M_245 (43, [some (.ref 0), some (.int x1), some (.int x2), some (.int x3), none], [.int s0], σ) = Lq G d M_245 (46, [some (.ref 0), some (.int x1), some (.int x2), some (.int x3), some (.int s0)], [.int x3], σ) :=
  (aUn_eq (tkd G.1 G.2) tmi (aRun (tkd G.1 G.2) tmi tmt d) M_245 [] 2 (43, [some (.ref 0), some (.int x1), some (.int x2), some (.int x3), none], [.int s0], σ)).trans rfl
set_option maxRecDepth 20000 in
theorem q_245_2987 (G : Nat × (Nat → Int32)) (d : Nat) (x1 : Int32) (x2 : Int32) (x3 : Int32) (x4 : Int32) (s0 : Int32) (σ : aH) : Lq G d M_245 (46, [some (.ref 0), some (.int x1), some (.int x2), some (.int x3), some (.int x4)], [.int s0], σ) = if s0 = 0 then Lq G d M_245 (54, [some (.ref 0), some (.int x1), some (.int x2), some (.int x3), some (.int x4)], [], σ) else Lq G d M_245 (49, [some (.ref 0), some (.int x1), some (.int x2), some (.int x3), some (.int x4)], [], σ) :=
  (aUn_eq (tkd G.1 G.2) tmi (aRun (tkd G.1 G.2) tmi tmt d) M_245 [] 1 (46, [some (.ref 0), some (.int x1), some (.int x2), some (.int x3), some (.int x4)], [.int s0], σ)).trans rfl
set_option maxRecDepth 20000 in
theorem q_245_2988 (G : Nat × (Nat → Int32)) (d : Nat) (x1 : Int32) (x2 : Int32) (x3 : Int32) (x4 : Int32) (σ : aH) : Lq G d M_245 (54, [some (.ref 0), some (.int x1), some (.int x2), some (.int x3), some (.int x4)], [], σ) = Lq G d M_245 (55, [some (.ref 0), some (.int x1), some (.int x2), some (.int x3), some (.int x4)], [.int (2 : Int32)], σ) :=
  (aUn_eq (tkd G.1 G.2) tmi (aRun (tkd G.1 G.2) tmi tmt d) M_245 [] 1 (54, [some (.ref 0), some (.int x1), some (.int x2), some (.int x3), some (.int x4)], [], σ)).trans rfl
set_option maxRecDepth 20000 in
theorem q_245_2989 (G : Nat × (Nat → Int32)) (d : Nat) (x1 : Int32) (x2 : Int32) (x3 : Int32) (x4 : Int32) (s0 : Int32) (σ : aH) : Lq G d M_245 (55, [some (.ref 0), some (.int x1), some (.int x2), some (.int x3), some (.int x4)], [.int s0], σ) = some (.inl (some (.int s0)), σ) :=
  (aUn_eq (tkd G.1 G.2) tmi (aRun (tkd G.1 G.2) tmi tmt d) M_245 [] 1 (55, [some (.ref 0), some (.int x1), some (.int x2), some (.int x3), some (.int x4)], [.int s0], σ)).trans rfl
set_option maxRecDepth 20000 in
theorem q_245_2990 (G : Nat × (Nat → Int32)) (d : Nat) (x1 : Int32) (x2 : Int32) (x3 : Int32) (x4 : Int32) (σ : aH) : Lq G d M_245 (49, [some (.ref 0), some (.int x1), some (.int x2), some (.int x3), some (.int x4)], [], σ) = Lq G d M_245 (51, [some (.ref 0), some (.int x1), some (.int x2), some (.int x3), some (.int x4)], [.int x4], σ) :=
  (aUn_eq (tkd G.1 G.2) tmi (aRun (tkd G.1 G.2) tmi tmt d) M_245 [] 1 (49, [some (.ref 0), some (.int x1), some (.int x2), some (.int x3), some (.int x4)], [], σ)).trans rfl
set_option maxRecDepth 20000 in
theorem q_245_2991 (G : Nat × (Nat → Int32)) (d : Nat) (x1 : Int32) (x2 : Int32) (x3 : Int32) (x4 : Int32) (s0 : Int32) (σ : aH) : Lq G d M_245 (51, [some (.ref 0), some (.int x1), some (.int x2), some (.int x3), some (.int x4)], [.int s0], σ) = if s0 = 0 then Lq G d M_245 (54, [some (.ref 0), some (.int x1), some (.int x2), some (.int x3), some (.int x4)], [], σ) else Lq G d M_245 (56, [some (.ref 0), some (.int x1), some (.int x2), some (.int x3), some (.int x4)], [], σ) :=
  (aUn_eq (tkd G.1 G.2) tmi (aRun (tkd G.1 G.2) tmi tmt d) M_245 [] 1 (51, [some (.ref 0), some (.int x1), some (.int x2), some (.int x3), some (.int x4)], [.int s0], σ)).trans rfl
set_option maxRecDepth 20000 in
theorem q_245_2992 (G : Nat × (Nat → Int32)) (d : Nat) (x1 : Int32) (x2 : Int32) (x3 : Int32) (x4 : Int32) (σ : aH) : Lq G d M_245 (56, [some (.ref 0), some (.int x1), some (.int x2), some (.int x3), some (.int x4)], [], σ) = Lq G d M_245 (59, [some (.ref 0), some (.int x1), some (.int x2), some (.int x3), some (.int x4)], [.int x4, .int x3], σ) :=
  (aUn_eq (tkd G.1 G.2) tmi (aRun (tkd G.1 G.2) tmi tmt d) M_245 [] 2 (56, [some (.ref 0), some (.int x1), some (.int x2), some (.int x3), some (.int x4)], [], σ)).trans rfl
set_option maxRecDepth 20000 in
theorem q_245_2993 (G : Nat × (Nat → Int32)) (d : Nat) (x1 : Int32) (x2 : Int32) (x3 : Int32) (x4 : Int32) (s0 : Int32) (s1 : Int32) (σ : aH) : Lq G d M_245 (59, [some (.ref 0), some (.int x1), some (.int x2), some (.int x3), some (.int x4)], [.int s0, .int s1], σ) = if s1 = s0 then Lq G d M_245 (62, [some (.ref 0), some (.int x1), some (.int x2), some (.int x3), some (.int x4)], [], σ) else Lq G d M_245 (66, [some (.ref 0), some (.int x1), some (.int x2), some (.int x3), some (.int x4)], [], σ) :=
  (aUn_eq (tkd G.1 G.2) tmi (aRun (tkd G.1 G.2) tmi tmt d) M_245 [] 1 (59, [some (.ref 0), some (.int x1), some (.int x2), some (.int x3), some (.int x4)], [.int s0, .int s1], σ)).trans rfl
set_option maxRecDepth 20000 in
theorem q_245_2994 (G : Nat × (Nat → Int32)) (d : Nat) (x1 : Int32) (x2 : Int32) (x3 : Int32) (x4 : Int32) (σ : aH) : Lq G d M_245 (62, [some (.ref 0), some (.int x1), some (.int x2), some (.int x3), some (.int x4)], [], σ) = Lq G d M_245 (67, [some (.ref 0), some (.int x1), some (.int x2), some (.int x3), some (.int x4)], [.int (0 : Int32)], σ) :=
  (aUn_eq (tkd G.1 G.2) tmi (aRun (tkd G.1 G.2) tmi tmt d) M_245 [] 2 (62, [some (.ref 0), some (.int x1), some (.int x2), some (.int x3), some (.int x4)], [], σ)).trans rfl
set_option maxRecDepth 20000 in
theorem q_245_2995 (G : Nat × (Nat → Int32)) (d : Nat) (x1 : Int32) (x2 : Int32) (x3 : Int32) (x4 : Int32) (s0 : Int32) (σ : aH) : Lq G d M_245 (67, [some (.ref 0), some (.int x1), some (.int x2), some (.int x3), some (.int x4)], [.int s0], σ) = some (.inl (some (.int s0)), σ) :=
  (aUn_eq (tkd G.1 G.2) tmi (aRun (tkd G.1 G.2) tmi tmt d) M_245 [] 1 (67, [some (.ref 0), some (.int x1), some (.int x2), some (.int x3), some (.int x4)], [.int s0], σ)).trans rfl
set_option maxRecDepth 20000 in
theorem q_245_2996 (G : Nat × (Nat → Int32)) (d : Nat) (x1 : Int32) (x2 : Int32) (x3 : Int32) (x4 : Int32) (σ : aH) : Lq G d M_245 (66, [some (.ref 0), some (.int x1), some (.int x2), some (.int x3), some (.int x4)], [], σ) = Lq G d M_245 (67, [some (.ref 0), some (.int x1), some (.int x2), some (.int x3), some (.int x4)], [.int (1 : Int32)], σ) :=
  (aUn_eq (tkd G.1 G.2) tmi (aRun (tkd G.1 G.2) tmi tmt d) M_245 [] 1 (66, [some (.ref 0), some (.int x1), some (.int x2), some (.int x3), some (.int x4)], [], σ)).trans rfl
set_option maxRecDepth 20000 in
theorem q_249_2997 (G : Nat × (Nat → Int32)) (d : Nat)  (σ : aH) : Lq G d M_249 (0, [some (.ref 25)], [], σ) = Lq G d M_249 (5, [some (.ref 25)], [], (aSI σ 25 1 (0 : Int32))) :=
  (aUn_eq (tkd G.1 G.2) tmi (aRun (tkd G.1 G.2) tmi tmt d) M_249 [] 3 (0, [some (.ref 25)], [], σ)).trans rfl
set_option maxRecDepth 20000 in
theorem q_249_2998 (G : Nat × (Nat → Int32)) (d : Nat)  (σ : aH) : Lq G d M_249 (5, [some (.ref 25)], [], σ) = some (.inl none, σ) :=
  (aUn_eq (tkd G.1 G.2) tmi (aRun (tkd G.1 G.2) tmi tmt d) M_249 [] 1 (5, [some (.ref 25)], [], σ)).trans rfl
set_option maxRecDepth 20000 in
theorem q_250_2999 (G : Nat × (Nat → Int32)) (d : Nat) (x1 : Int32) (x2 : Int32) (σ : aH) : Lq G d M_250 (0, [some (.ref 0), some (.int x1), some (.int x2), none, none], [], σ) = Lq G d M_250 (5, [some (.ref 0), some (.int x1), some (.int x2), some (.int (0 : Int32)), some (.int (0 : Int32))], [], σ) :=
  (aUn_eq (tkd G.1 G.2) tmi (aRun (tkd G.1 G.2) tmi tmt d) M_250 [] 4 (0, [some (.ref 0), some (.int x1), some (.int x2), none, none], [], σ)).trans rfl
set_option maxRecDepth 20000 in
theorem q_250_3000 (G : Nat × (Nat → Int32)) (d : Nat) (x1 : Int32) (x2 : Int32) (x3 : Int32) (x4 : Int32) (σ : aH) : Lq G d M_250 (5, [some (.ref 0), some (.int x1), some (.int x2), some (.int x3), some (.int x4)], [], σ) = Lq G d M_250 (14, [some (.ref 0), some (.int x1), some (.int x2), some (.int x3), some (.int x4)], [.int (σ.1 13 1), .int x4], σ) :=
  (aUn_eq (tkd G.1 G.2) tmi (aRun (tkd G.1 G.2) tmi tmt d) M_250 [] 4 (5, [some (.ref 0), some (.int x1), some (.int x2), some (.int x3), some (.int x4)], [], σ)).trans rfl
set_option maxRecDepth 20000 in
theorem q_250_3001 (G : Nat × (Nat → Int32)) (d : Nat) (x1 : Int32) (x2 : Int32) (x3 : Int32) (x4 : Int32) (s0 : Int32) (s1 : Int32) (σ : aH) : Lq G d M_250 (14, [some (.ref 0), some (.int x1), some (.int x2), some (.int x3), some (.int x4)], [.int s0, .int s1], σ) = if s0 ≤ s1 then Lq G d M_250 (91, [some (.ref 0), some (.int x1), some (.int x2), some (.int x3), some (.int x4)], [], σ) else Lq G d M_250 (17, [some (.ref 0), some (.int x1), some (.int x2), some (.int x3), some (.int x4)], [], σ) :=
  (aUn_eq (tkd G.1 G.2) tmi (aRun (tkd G.1 G.2) tmi tmt d) M_250 [] 1 (14, [some (.ref 0), some (.int x1), some (.int x2), some (.int x3), some (.int x4)], [.int s0, .int s1], σ)).trans rfl
set_option maxRecDepth 20000 in
theorem q_250_3002 (G : Nat × (Nat → Int32)) (d : Nat) (x1 : Int32) (x2 : Int32) (x3 : Int32) (x4 : Int32) (σ : aH) : Lq G d M_250 (91, [some (.ref 0), some (.int x1), some (.int x2), some (.int x3), some (.int x4)], [], σ) = Lq G d M_250 (92, [some (.ref 0), some (.int x1), some (.int x2), some (.int x3), some (.int x4)], [.int x3], σ) :=
  (aUn_eq (tkd G.1 G.2) tmi (aRun (tkd G.1 G.2) tmi tmt d) M_250 [] 1 (91, [some (.ref 0), some (.int x1), some (.int x2), some (.int x3), some (.int x4)], [], σ)).trans rfl
set_option maxRecDepth 20000 in
theorem q_250_3003 (G : Nat × (Nat → Int32)) (d : Nat) (x1 : Int32) (x2 : Int32) (x3 : Int32) (x4 : Int32) (s0 : Int32) (σ : aH) : Lq G d M_250 (92, [some (.ref 0), some (.int x1), some (.int x2), some (.int x3), some (.int x4)], [.int s0], σ) = some (.inl (some (.int s0)), σ) :=
  (aUn_eq (tkd G.1 G.2) tmi (aRun (tkd G.1 G.2) tmi tmt d) M_250 [] 1 (92, [some (.ref 0), some (.int x1), some (.int x2), some (.int x3), some (.int x4)], [.int s0], σ)).trans rfl
set_option maxRecDepth 20000 in
theorem q_250_3004 (G : Nat × (Nat → Int32)) (d : Nat) (x1 : Int32) (x2 : Int32) (x3 : Int32) (x4 : Int32) (σ : aH) : Lq G d M_250 (17, [some (.ref 0), some (.int x1), some (.int x2), some (.int x3), some (.int x4)], [], σ) = Lq G d M_250 (23, [some (.ref 0), some (.int x1), some (.int x2), some (.int x3), some (.int x4)], [.int x4, .ref 17], σ) :=
  (aUn_eq (tkd G.1 G.2) tmi (aRun (tkd G.1 G.2) tmi tmt d) M_250 [] 3 (17, [some (.ref 0), some (.int x1), some (.int x2), some (.int x3), some (.int x4)], [], σ)).trans rfl
set_option maxRecDepth 20000 in
theorem q_250_3005 (G : Nat × (Nat → Int32)) (d : Nat) (x1 : Int32) (x2 : Int32) (x3 : Int32) (x4 : Int32) (s0 : Int32) (σ : aH) : Lq G d M_250 (23, [some (.ref 0), some (.int x1), some (.int x2), some (.int x3), some (.int x4)], [.int s0, .ref 17], σ) = aCI (Rn G d 220 [.ref 17, .int s0] σ) fun v2 σ1 => Lq G d M_250 (26, [some (.ref 0), some (.int x1), some (.int x2), some (.int x3), some (.int x4)], [.int v2], σ1) :=
  (aUn_eq (tkd G.1 G.2) tmi (aRun (tkd G.1 G.2) tmi tmt d) M_250 [] 1 (23, [some (.ref 0), some (.int x1), some (.int x2), some (.int x3), some (.int x4)], [.int s0, .ref 17], σ)).trans rfl
set_option maxRecDepth 20000 in
theorem q_250_3006 (G : Nat × (Nat → Int32)) (d : Nat) (x1 : Int32) (x2 : Int32) (x3 : Int32) (x4 : Int32) (s0 : Int32) (σ : aH) : Lq G d M_250 (26, [some (.ref 0), some (.int x1), some (.int x2), some (.int x3), some (.int x4)], [.int s0], σ) = if s0 = 0 then Lq G d M_250 (85, [some (.ref 0), some (.int x1), some (.int x2), some (.int x3), some (.int x4)], [], σ) else Lq G d M_250 (29, [some (.ref 0), some (.int x1), some (.int x2), some (.int x3), some (.int x4)], [], σ) :=
  (aUn_eq (tkd G.1 G.2) tmi (aRun (tkd G.1 G.2) tmi tmt d) M_250 [] 1 (26, [some (.ref 0), some (.int x1), some (.int x2), some (.int x3), some (.int x4)], [.int s0], σ)).trans rfl
set_option maxRecDepth 20000 in
theorem q_250_3007 (G : Nat × (Nat → Int32)) (d : Nat) (x1 : Int32) (x2 : Int32) (x3 : Int32) (x4 : Int32) (σ : aH) : Lq G d M_250 (85, [some (.ref 0), some (.int x1), some (.int x2), some (.int x3), some (.int x4)], [], σ) = Lq G d M_250 (5, [some (.ref 0), some (.int x1), some (.int x2), some (.int x3), some (.int (x4 + (1 : Int32)))], [], σ) :=
  (aUn_eq (tkd G.1 G.2) tmi (aRun (tkd G.1 G.2) tmi tmt d) M_250 [] 2 (85, [some (.ref 0), some (.int x1), some (.int x2), some (.int x3), some (.int x4)], [], σ)).trans rfl
set_option maxRecDepth 20000 in
theorem q_250_3008 (G : Nat × (Nat → Int32)) (d : Nat) (x1 : Int32) (x2 : Int32) (x3 : Int32) (x4 : Int32) (σ : aH) : Lq G d M_250 (29, [some (.ref 0), some (.int x1), some (.int x2), some (.int x3), some (.int x4)], [], σ) = Lq G d M_250 (37, [some (.ref 0), some (.int x1), some (.int x2), some (.int x3), some (.int x4)], [.int (17 : Int32), .int x4, .ref 13], σ) :=
  (aUn_eq (tkd G.1 G.2) tmi (aRun (tkd G.1 G.2) tmi tmt d) M_250 [] 4 (29, [some (.ref 0), some (.int x1), some (.int x2), some (.int x3), some (.int x4)], [], σ)).trans rfl
set_option maxRecDepth 20000 in
theorem q_250_3009 (G : Nat × (Nat → Int32)) (d : Nat) (x1 : Int32) (x2 : Int32) (x3 : Int32) (x4 : Int32) (s0 : Int32) (s1 : Int32) (σ : aH) : Lq G d M_250 (37, [some (.ref 0), some (.int x1), some (.int x2), some (.int x3), some (.int x4)], [.int s0, .int s1, .ref 13], σ) = aCI (Rn G d 117 [.ref 13, .int s1, .int s0] σ) fun v2 σ1 => Lq G d M_250 (40, [some (.ref 0), some (.int x1), some (.int x2), some (.int x3), some (.int x4)], [.int v2], σ1) :=
  (aUn_eq (tkd G.1 G.2) tmi (aRun (tkd G.1 G.2) tmi tmt d) M_250 [] 1 (37, [some (.ref 0), some (.int x1), some (.int x2), some (.int x3), some (.int x4)], [.int s0, .int s1, .ref 13], σ)).trans rfl
set_option maxRecDepth 20000 in
theorem q_250_3010 (G : Nat × (Nat → Int32)) (d : Nat) (x1 : Int32) (x2 : Int32) (x3 : Int32) (x4 : Int32) (s0 : Int32) (σ : aH) : Lq G d M_250 (40, [some (.ref 0), some (.int x1), some (.int x2), some (.int x3), some (.int x4)], [.int s0], σ) = Lq G d M_250 (41, [some (.ref 0), some (.int x1), some (.int x2), some (.int x3), some (.int x4)], [.int x1, .int s0], σ) :=
  (aUn_eq (tkd G.1 G.2) tmi (aRun (tkd G.1 G.2) tmi tmt d) M_250 [] 1 (40, [some (.ref 0), some (.int x1), some (.int x2), some (.int x3), some (.int x4)], [.int s0], σ)).trans rfl
set_option maxRecDepth 20000 in
theorem q_250_3011 (G : Nat × (Nat → Int32)) (d : Nat) (x1 : Int32) (x2 : Int32) (x3 : Int32) (x4 : Int32) (s0 : Int32) (s1 : Int32) (σ : aH) : Lq G d M_250 (41, [some (.ref 0), some (.int x1), some (.int x2), some (.int x3), some (.int x4)], [.int s0, .int s1], σ) = if s1 = s0 then Lq G d M_250 (44, [some (.ref 0), some (.int x1), some (.int x2), some (.int x3), some (.int x4)], [], σ) else Lq G d M_250 (85, [some (.ref 0), some (.int x1), some (.int x2), some (.int x3), some (.int x4)], [], σ) :=
  (aUn_eq (tkd G.1 G.2) tmi (aRun (tkd G.1 G.2) tmi tmt d) M_250 [] 1 (41, [some (.ref 0), some (.int x1), some (.int x2), some (.int x3), some (.int x4)], [.int s0, .int s1], σ)).trans rfl
set_option maxRecDepth 20000 in
theorem q_250_3012 (G : Nat × (Nat → Int32)) (d : Nat) (x1 : Int32) (x2 : Int32) (x3 : Int32) (x4 : Int32) (σ : aH) : Lq G d M_250 (44, [some (.ref 0), some (.int x1), some (.int x2), some (.int x3), some (.int x4)], [], σ) = Lq G d M_250 (49, [some (.ref 0), some (.int x1), some (.int x2), some (.int x3), some (.int x4)], [.int x2, .ref 25], σ) :=
  (aUn_eq (tkd G.1 G.2) tmi (aRun (tkd G.1 G.2) tmi tmt d) M_250 [] 3 (44, [some (.ref 0), some (.int x1), some (.int x2), some (.int x3), some (.int x4)], [], σ)).trans rfl
set_option maxRecDepth 20000 in
theorem q_250_3013 (G : Nat × (Nat → Int32)) (d : Nat) (x1 : Int32) (x2 : Int32) (x3 : Int32) (x4 : Int32) (s0 : Int32) (σ : aH) : Lq G d M_250 (49, [some (.ref 0), some (.int x1), some (.int x2), some (.int x3), some (.int x4)], [.int s0, .ref 25], σ) = if s0 = 0 then Lq G d M_250 (52, [some (.ref 0), some (.int x1), some (.int x2), some (.int x3), some (.int x4)], [.ref 25], σ) else Lq G d M_250 (64, [some (.ref 0), some (.int x1), some (.int x2), some (.int x3), some (.int x4)], [.ref 25], σ) :=
  (aUn_eq (tkd G.1 G.2) tmi (aRun (tkd G.1 G.2) tmi tmt d) M_250 [] 1 (49, [some (.ref 0), some (.int x1), some (.int x2), some (.int x3), some (.int x4)], [.int s0, .ref 25], σ)).trans rfl
set_option maxRecDepth 20000 in
theorem q_250_3014 (G : Nat × (Nat → Int32)) (d : Nat) (x1 : Int32) (x2 : Int32) (x3 : Int32) (x4 : Int32) (σ : aH) : Lq G d M_250 (52, [some (.ref 0), some (.int x1), some (.int x2), some (.int x3), some (.int x4)], [.ref 25], σ) = Lq G d M_250 (58, [some (.ref 0), some (.int x1), some (.int x2), some (.int x3), some (.int x4)], [.int x4, .ref 17, .ref 25], σ) :=
  (aUn_eq (tkd G.1 G.2) tmi (aRun (tkd G.1 G.2) tmi tmt d) M_250 [] 3 (52, [some (.ref 0), some (.int x1), some (.int x2), some (.int x3), some (.int x4)], [.ref 25], σ)).trans rfl
set_option maxRecDepth 20000 in
theorem q_250_3015 (G : Nat × (Nat → Int32)) (d : Nat) (x1 : Int32) (x2 : Int32) (x3 : Int32) (x4 : Int32) (s0 : Int32) (σ : aH) : Lq G d M_250 (58, [some (.ref 0), some (.int x1), some (.int x2), some (.int x3), some (.int x4)], [.int s0, .ref 17, .ref 25], σ) = aCI (Rn G d 121 [.ref 17, .int s0] σ) fun v2 σ1 => Lq G d M_250 (61, [some (.ref 0), some (.int x1), some (.int x2), some (.int x3), some (.int x4)], [.int v2, .ref 25], σ1) :=
  (aUn_eq (tkd G.1 G.2) tmi (aRun (tkd G.1 G.2) tmi tmt d) M_250 [] 1 (58, [some (.ref 0), some (.int x1), some (.int x2), some (.int x3), some (.int x4)], [.int s0, .ref 17, .ref 25], σ)).trans rfl
set_option maxRecDepth 20000 in
theorem q_250_3016 (G : Nat × (Nat → Int32)) (d : Nat) (x1 : Int32) (x2 : Int32) (x3 : Int32) (x4 : Int32) (s0 : Int32) (σ : aH) : Lq G d M_250 (61, [some (.ref 0), some (.int x1), some (.int x2), some (.int x3), some (.int x4)], [.int s0, .ref 25], σ) = Lq G d M_250 (79, [some (.ref 0), some (.int x1), some (.int x2), some (.int x3), some (.int x4)], [.int s0, .ref 25], σ) :=
  (aUn_eq (tkd G.1 G.2) tmi (aRun (tkd G.1 G.2) tmi tmt d) M_250 [] 1 (61, [some (.ref 0), some (.int x1), some (.int x2), some (.int x3), some (.int x4)], [.int s0, .ref 25], σ)).trans rfl
set_option maxRecDepth 20000 in
theorem q_250_3017 (G : Nat × (Nat → Int32)) (d : Nat) (x1 : Int32) (x2 : Int32) (x3 : Int32) (x4 : Int32) (s0 : Int32) (σ : aH) : Lq G d M_250 (79, [some (.ref 0), some (.int x1), some (.int x2), some (.int x3), some (.int x4)], [.int s0, .ref 25], σ) = aCV (Rn G d 251 [.ref 25, .int s0] σ) fun σ1 => Lq G d M_250 (82, [some (.ref 0), some (.int x1), some (.int x2), some (.int x3), some (.int x4)], [], σ1) :=
  (aUn_eq (tkd G.1 G.2) tmi (aRun (tkd G.1 G.2) tmi tmt d) M_250 [] 1 (79, [some (.ref 0), some (.int x1), some (.int x2), some (.int x3), some (.int x4)], [.int s0, .ref 25], σ)).trans rfl
set_option maxRecDepth 20000 in
theorem q_250_3018 (G : Nat × (Nat → Int32)) (d : Nat) (x1 : Int32) (x2 : Int32) (x3 : Int32) (x4 : Int32) (σ : aH) : Lq G d M_250 (82, [some (.ref 0), some (.int x1), some (.int x2), some (.int x3), some (.int x4)], [], σ) = Lq G d M_250 (88, [some (.ref 0), some (.int x1), some (.int x2), some (.int (x3 + (1 : Int32))), some (.int (x4 + (1 : Int32)))], [], σ) :=
  (aUn_eq (tkd G.1 G.2) tmi (aRun (tkd G.1 G.2) tmi tmt d) M_250 [] 2 (82, [some (.ref 0), some (.int x1), some (.int x2), some (.int x3), some (.int x4)], [], σ)).trans rfl
set_option maxRecDepth 20000 in
theorem q_250_3019 (G : Nat × (Nat → Int32)) (d : Nat) (x1 : Int32) (x2 : Int32) (x3 : Int32) (x4 : Int32) (σ : aH) : Lq G d M_250 (88, [some (.ref 0), some (.int x1), some (.int x2), some (.int x3), some (.int x4)], [], σ) = Lq G d M_250 (5, [some (.ref 0), some (.int x1), some (.int x2), some (.int x3), some (.int x4)], [], σ) :=
  (aUn_eq (tkd G.1 G.2) tmi (aRun (tkd G.1 G.2) tmi tmt d) M_250 [] 1 (88, [some (.ref 0), some (.int x1), some (.int x2), some (.int x3), some (.int x4)], [], σ)).trans rfl
set_option maxRecDepth 20000 in
theorem q_250_3020 (G : Nat × (Nat → Int32)) (d : Nat) (x1 : Int32) (x2 : Int32) (x3 : Int32) (x4 : Int32) (σ : aH) : Lq G d M_250 (64, [some (.ref 0), some (.int x1), some (.int x2), some (.int x3), some (.int x4)], [.ref 25], σ) = Lq G d M_250 (76, [some (.ref 0), some (.int x1), some (.int x2), some (.int x3), some (.int x4)], [.int (((12 : Int32) + x2) - (1 : Int32)), .int x4, .ref 13, .ref 25], σ) :=
  (aUn_eq (tkd G.1 G.2) tmi (aRun (tkd G.1 G.2) tmi tmt d) M_250 [] 8 (64, [some (.ref 0), some (.int x1), some (.int x2), some (.int x3), some (.int x4)], [.ref 25], σ)).trans rfl
set_option maxRecDepth 20000 in
theorem q_250_3021 (G : Nat × (Nat → Int32)) (d : Nat) (x1 : Int32) (x2 : Int32) (x3 : Int32) (x4 : Int32) (s0 : Int32) (s1 : Int32) (σ : aH) : Lq G d M_250 (76, [some (.ref 0), some (.int x1), some (.int x2), some (.int x3), some (.int x4)], [.int s0, .int s1, .ref 13, .ref 25], σ) = aCI (Rn G d 117 [.ref 13, .int s1, .int s0] σ) fun v2 σ1 => Lq G d M_250 (79, [some (.ref 0), some (.int x1), some (.int x2), some (.int x3), some (.int x4)], [.int v2, .ref 25], σ1) :=
  (aUn_eq (tkd G.1 G.2) tmi (aRun (tkd G.1 G.2) tmi tmt d) M_250 [] 1 (76, [some (.ref 0), some (.int x1), some (.int x2), some (.int x3), some (.int x4)], [.int s0, .int s1, .ref 13, .ref 25], σ)).trans rfl
set_option maxRecDepth 20000 in
theorem q_252_3022 (G : Nat × (Nat → Int32)) (d : Nat) (x1 : Int32) (σ : aH) : Lq G d M_252 (0, [some (.ref 25), some (.int x1)], [], σ) = Lq G d M_252 (6, [some (.ref 25), some (.int x1)], [.int x1, .int (0 : Int32), .ref 26], σ) :=
  (aUn_eq (tkd G.1 G.2) tmi (aRun (tkd G.1 G.2) tmi tmt d) M_252 [] 4 (0, [some (.ref 25), some (.int x1)], [], σ)).trans rfl
set_option maxRecDepth 20000 in
theorem q_252_3023 (G : Nat × (Nat → Int32)) (d : Nat) (x1 : Int32) (s0 : Int32) (s1 : Int32) (σ : aH) : Lq G d M_252 (6, [some (.ref 25), some (.int x1)], [.int s0, .int s1, .ref 26], σ) = aCI (Rn G d 253 [.ref 26, .int s1, .int s0] σ) fun v2 σ1 => Lq G d M_252 (9, [some (.ref 25), some (.int x1)], [.int v2], σ1) :=
  (aUn_eq (tkd G.1 G.2) tmi (aRun (tkd G.1 G.2) tmi tmt d) M_252 [] 1 (6, [some (.ref 25), some (.int x1)], [.int s0, .int s1, .ref 26], σ)).trans rfl
set_option maxRecDepth 20000 in
theorem q_252_3024 (G : Nat × (Nat → Int32)) (d : Nat) (x1 : Int32) (s0 : Int32) (σ : aH) : Lq G d M_252 (9, [some (.ref 25), some (.int x1)], [.int s0], σ) = some (.inl (some (.int s0)), σ) :=
  (aUn_eq (tkd G.1 G.2) tmi (aRun (tkd G.1 G.2) tmi tmt d) M_252 [] 1 (9, [some (.ref 25), some (.int x1)], [.int s0], σ)).trans rfl
set_option maxRecDepth 20000 in
theorem q_254_3025 (G : Nat × (Nat → Int32)) (d : Nat) (x1 : Int32) (σ : aH) : Lq G d M_254 (0, [some (.ref 25), some (.int x1), none], [], σ) = Lq G d M_254 (2, [some (.ref 25), some (.int x1), none], [.int x1, .ref 25], σ) :=
  (aUn_eq (tkd G.1 G.2) tmi (aRun (tkd G.1 G.2) tmi tmt d) M_254 [] 2 (0, [some (.ref 25), some (.int x1), none], [], σ)).trans rfl
set_option maxRecDepth 20000 in
theorem q_254_3026 (G : Nat × (Nat → Int32)) (d : Nat) (x1 : Int32) (s0 : Int32) (σ : aH) : Lq G d M_254 (2, [some (.ref 25), some (.int x1), none], [.int s0, .ref 25], σ) = aCI (Rn G d 252 [.ref 25, .int s0] σ) fun v2 σ1 => Lq G d M_254 (5, [some (.ref 25), some (.int x1), none], [.int v2], σ1) :=
  (aUn_eq (tkd G.1 G.2) tmi (aRun (tkd G.1 G.2) tmi tmt d) M_254 [] 1 (2, [some (.ref 25), some (.int x1), none], [.int s0, .ref 25], σ)).trans rfl
set_option maxRecDepth 20000 in
theorem q_254_3027 (G : Nat × (Nat → Int32)) (d : Nat) (x1 : Int32) (s0 : Int32) (σ : aH) : Lq G d M_254 (5, [some (.ref 25), some (.int x1), none], [.int s0], σ) = Lq G d M_254 (7, [some (.ref 25), some (.int x1), some (.int s0)], [.ref 25], σ) :=
  (aUn_eq (tkd G.1 G.2) tmi (aRun (tkd G.1 G.2) tmi tmt d) M_254 [] 2 (5, [some (.ref 25), some (.int x1), none], [.int s0], σ)).trans rfl
set_option maxRecDepth 20000 in
theorem q_254_3028 (G : Nat × (Nat → Int32)) (d : Nat) (x1 : Int32) (x2 : Int32) (σ : aH) : Lq G d M_254 (7, [some (.ref 25), some (.int x1), some (.int x2)], [.ref 25], σ) = aCV (Rn G d 255 [.ref 25] σ) fun σ1 => Lq G d M_254 (10, [some (.ref 25), some (.int x1), some (.int x2)], [], σ1) :=
  (aUn_eq (tkd G.1 G.2) tmi (aRun (tkd G.1 G.2) tmi tmt d) M_254 [] 1 (7, [some (.ref 25), some (.int x1), some (.int x2)], [.ref 25], σ)).trans rfl
set_option maxRecDepth 20000 in
theorem q_254_3029 (G : Nat × (Nat → Int32)) (d : Nat) (x1 : Int32) (x2 : Int32) (σ : aH) : Lq G d M_254 (10, [some (.ref 25), some (.int x1), some (.int x2)], [], σ) = Lq G d M_254 (21, [some (.ref 25), some (.int x1), some (.int x2)], [.int x2, .int x1, .int (0 : Int32), .int (σ.1 25 1), .ref 26], σ) :=
  (aUn_eq (tkd G.1 G.2) tmi (aRun (tkd G.1 G.2) tmi tmt d) M_254 [] 7 (10, [some (.ref 25), some (.int x1), some (.int x2)], [], σ)).trans rfl
set_option maxRecDepth 20000 in
theorem q_254_3030 (G : Nat × (Nat → Int32)) (d : Nat) (x1 : Int32) (x2 : Int32) (s0 : Int32) (s1 : Int32) (s2 : Int32) (s3 : Int32) (σ : aH) : Lq G d M_254 (21, [some (.ref 25), some (.int x1), some (.int x2)], [.int s0, .int s1, .int s2, .int s3, .ref 26], σ) = aCI (Rn G d 256 [.ref 26, .int s3, .int s2, .int s1, .int s0] σ) fun v2 σ1 => Lq G d M_254 (24, [some (.ref 25), some (.int x1), some (.int x2)], [.int v2], σ1) :=
  (aUn_eq (tkd G.1 G.2) tmi (aRun (tkd G.1 G.2) tmi tmt d) M_254 [] 1 (21, [some (.ref 25), some (.int x1), some (.int x2)], [.int s0, .int s1, .int s2, .int s3, .ref 26], σ)).trans rfl
set_option maxRecDepth 20000 in
theorem q_254_3031 (G : Nat × (Nat → Int32)) (d : Nat) (x1 : Int32) (x2 : Int32) (s0 : Int32) (σ : aH) : Lq G d M_254 (24, [some (.ref 25), some (.int x1), some (.int x2)], [.int s0], σ) = some (.inl (some (.int s0)), σ) :=
  (aUn_eq (tkd G.1 G.2) tmi (aRun (tkd G.1 G.2) tmi tmt d) M_254 [] 1 (24, [some (.ref 25), some (.int x1), some (.int x2)], [.int s0], σ)).trans rfl
set_option maxRecDepth 20000 in
theorem q_257_3032 (G : Nat × (Nat → Int32)) (d : Nat) (x0 : Int32) (x1 : Int32) (σ : aH) : Lq G d M_257 (0, [some (.int x0), some (.int x1), none, none], [], σ) = Lq G d M_257 (4, [some (.int x0), some (.int x1), some (.int (1 : Int32)), some (.int (1 : Int32))], [], σ) :=
  (aUn_eq (tkd G.1 G.2) tmi (aRun (tkd G.1 G.2) tmi tmt d) M_257 [] 4 (0, [some (.int x0), some (.int x1), none, none], [], σ)).trans rfl
set_option maxRecDepth 20000 in
theorem q_257_3033 (G : Nat × (Nat → Int32)) (d : Nat) (x0 : Int32) (x1 : Int32) (x2 : Int32) (x3 : Int32) (σ : aH) : Lq G d M_257 (4, [some (.int x0), some (.int x1), some (.int x2), some (.int x3)], [], σ) = Lq G d M_257 (6, [some (.int x0), some (.int x1), some (.int x2), some (.int x3)], [.int x1, .int x3], σ) :=
  (aUn_eq (tkd G.1 G.2) tmi (aRun (tkd G.1 G.2) tmi tmt d) M_257 [] 2 (4, [some (.int x0), some (.int x1), some (.int x2), some (.int x3)], [], σ)).trans rfl
set_option maxRecDepth 20000 in
theorem q_257_3034 (G : Nat × (Nat → Int32)) (d : Nat) (x0 : Int32) (x1 : Int32) (x2 : Int32) (x3 : Int32) (s0 : Int32) (s1 : Int32) (σ : aH) : Lq G d M_257 (6, [some (.int x0), some (.int x1), some (.int x2), some (.int x3)], [.int s0, .int s1], σ) = if s0 < s1 then Lq G d M_257 (25, [some (.int x0), some (.int x1), some (.int x2), some (.int x3)], [], σ) else Lq G d M_257 (9, [some (.int x0), some (.int x1), some (.int x2), some (.int x3)], [], σ) :=
  (aUn_eq (tkd G.1 G.2) tmi (aRun (tkd G.1 G.2) tmi tmt d) M_257 [] 1 (6, [some (.int x0), some (.int x1), some (.int x2), some (.int x3)], [.int s0, .int s1], σ)).trans rfl
set_option maxRecDepth 20000 in
theorem q_257_3035 (G : Nat × (Nat → Int32)) (d : Nat) (x0 : Int32) (x1 : Int32) (x2 : Int32) (x3 : Int32) (σ : aH) : Lq G d M_257 (25, [some (.int x0), some (.int x1), some (.int x2), some (.int x3)], [], σ) = Lq G d M_257 (26, [some (.int x0), some (.int x1), some (.int x2), some (.int x3)], [.int x2], σ) :=
  (aUn_eq (tkd G.1 G.2) tmi (aRun (tkd G.1 G.2) tmi tmt d) M_257 [] 1 (25, [some (.int x0), some (.int x1), some (.int x2), some (.int x3)], [], σ)).trans rfl
set_option maxRecDepth 20000 in
theorem q_257_3036 (G : Nat × (Nat → Int32)) (d : Nat) (x0 : Int32) (x1 : Int32) (x2 : Int32) (x3 : Int32) (s0 : Int32) (σ : aH) : Lq G d M_257 (26, [some (.int x0), some (.int x1), some (.int x2), some (.int x3)], [.int s0], σ) = some (.inl (some (.int s0)), σ) :=
  (aUn_eq (tkd G.1 G.2) tmi (aRun (tkd G.1 G.2) tmi tmt d) M_257 [] 1 (26, [some (.int x0), some (.int x1), some (.int x2), some (.int x3)], [.int s0], σ)).trans rfl
set_option maxRecDepth 20000 in
theorem q_257_3037 (G : Nat × (Nat → Int32)) (d : Nat) (x0 : Int32) (x1 : Int32) (x2 : Int32) (x3 : Int32) (σ : aH) : Lq G d M_257 (9, [some (.int x0), some (.int x1), some (.int x2), some (.int x3)], [], σ) = Lq G d M_257 (17, [some (.int x0), some (.int x1), some (.int x2), some (.int x3)], [.int x3, .int (x2 * ((x0 - x1) + x3))], σ) :=
  (aUn_eq (tkd G.1 G.2) tmi (aRun (tkd G.1 G.2) tmi tmt d) M_257 [] 8 (9, [some (.int x0), some (.int x1), some (.int x2), some (.int x3)], [], σ)).trans rfl
set_option maxRecDepth 20000 in
theorem q_257_3038 (G : Nat × (Nat → Int32)) (d : Nat) (x0 : Int32) (x1 : Int32) (x2 : Int32) (x3 : Int32) (s0 : Int32) (s1 : Int32) (σ : aH) : Lq G d M_257 (17, [some (.int x0), some (.int x1), some (.int x2), some (.int x3)], [.int s0, .int s1], σ) = aNz (s0) (Lq G d M_257 (18, [some (.int x0), some (.int x1), some (.int x2), some (.int x3)], [.int (s1 / s0)], σ)) :=
  (aUn_eq (tkd G.1 G.2) tmi (aRun (tkd G.1 G.2) tmi tmt d) M_257 [] 1 (17, [some (.int x0), some (.int x1), some (.int x2), some (.int x3)], [.int s0, .int s1], σ)).trans rfl
set_option maxRecDepth 20000 in
theorem q_257_3039 (G : Nat × (Nat → Int32)) (d : Nat) (x0 : Int32) (x1 : Int32) (x2 : Int32) (x3 : Int32) (s0 : Int32) (σ : aH) : Lq G d M_257 (18, [some (.int x0), some (.int x1), some (.int x2), some (.int x3)], [.int s0], σ) = Lq G d M_257 (22, [some (.int x0), some (.int x1), some (.int s0), some (.int (x3 + (1 : Int32)))], [], σ) :=
  (aUn_eq (tkd G.1 G.2) tmi (aRun (tkd G.1 G.2) tmi tmt d) M_257 [] 2 (18, [some (.int x0), some (.int x1), some (.int x2), some (.int x3)], [.int s0], σ)).trans rfl
set_option maxRecDepth 20000 in
theorem q_257_3040 (G : Nat × (Nat → Int32)) (d : Nat) (x0 : Int32) (x1 : Int32) (x2 : Int32) (x3 : Int32) (σ : aH) : Lq G d M_257 (22, [some (.int x0), some (.int x1), some (.int x2), some (.int x3)], [], σ) = Lq G d M_257 (4, [some (.int x0), some (.int x1), some (.int x2), some (.int x3)], [], σ) :=
  (aUn_eq (tkd G.1 G.2) tmi (aRun (tkd G.1 G.2) tmi tmt d) M_257 [] 1 (22, [some (.int x0), some (.int x1), some (.int x2), some (.int x3)], [], σ)).trans rfl
set_option maxRecDepth 20000 in
theorem q_261_3041 (G : Nat × (Nat → Int32)) (d : Nat) (x1 : Int32) (x2 : Int32) (σ : aH) : Lq G d M_261 (0, [some (.ref 0), some (.int x1), some (.int x2), none, none], [], σ) = Lq G d M_261 (7, [some (.ref 0), some (.int x1), some (.int x2), none, none], [.int (17 : Int32), .int x1, .ref 13], σ) :=
  (aUn_eq (tkd G.1 G.2) tmi (aRun (tkd G.1 G.2) tmi tmt d) M_261 [] 4 (0, [some (.ref 0), some (.int x1), some (.int x2), none, none], [], σ)).trans rfl
set_option maxRecDepth 20000 in
theorem q_261_3042 (G : Nat × (Nat → Int32)) (d : Nat) (x1 : Int32) (x2 : Int32) (s0 : Int32) (s1 : Int32) (σ : aH) : Lq G d M_261 (7, [some (.ref 0), some (.int x1), some (.int x2), none, none], [.int s0, .int s1, .ref 13], σ) = aCI (Rn G d 117 [.ref 13, .int s1, .int s0] σ) fun v2 σ1 => Lq G d M_261 (10, [some (.ref 0), some (.int x1), some (.int x2), none, none], [.int v2], σ1) :=
  (aUn_eq (tkd G.1 G.2) tmi (aRun (tkd G.1 G.2) tmi tmt d) M_261 [] 1 (7, [some (.ref 0), some (.int x1), some (.int x2), none, none], [.int s0, .int s1, .ref 13], σ)).trans rfl
set_option maxRecDepth 20000 in
theorem q_261_3043 (G : Nat × (Nat → Int32)) (d : Nat) (x1 : Int32) (x2 : Int32) (s0 : Int32) (σ : aH) : Lq G d M_261 (10, [some (.ref 0), some (.int x1), some (.int x2), none, none], [.int s0], σ) = Lq G d M_261 (18, [some (.ref 0), some (.int x1), some (.int x2), some (.int s0), none], [.int (17 : Int32), .int x2, .ref 13], σ) :=
  (aUn_eq (tkd G.1 G.2) tmi (aRun (tkd G.1 G.2) tmi tmt d) M_261 [] 5 (10, [some (.ref 0), some (.int x1), some (.int x2), none, none], [.int s0], σ)).trans rfl
set_option maxRecDepth 20000 in
theorem q_261_3044 (G : Nat × (Nat → Int32)) (d : Nat) (x1 : Int32) (x2 : Int32) (x3 : Int32) (s0 : Int32) (s1 : Int32) (σ : aH) : Lq G d M_261 (18, [some (.ref 0), some (.int x1), some (.int x2), some (.int x3), none], [.int s0, .int s1, .ref 13], σ) = aCI (Rn G d 117 [.ref 13, .int s1, .int s0] σ) fun v2 σ1 => Lq G d M_261 (21, [some (.ref 0), some (.int x1), some (.int x2), some (.int x3), none], [.int v2], σ1) :=
  (aUn_eq (tkd G.1 G.2) tmi (aRun (tkd G.1 G.2) tmi tmt d) M_261 [] 1 (18, [some (.ref 0), some (.int x1), some (.int x2), some (.int x3), none], [.int s0, .int s1, .ref 13], σ)).trans rfl
set_option maxRecDepth 20000 in
theorem q_261_3045 (G : Nat × (Nat → Int32)) (d : Nat) (x1 : Int32) (x2 : Int32) (x3 : Int32) (s0 : Int32) (σ : aH) : Lq G d M_261 (21, [some (.ref 0), some (.int x1), some (.int x2), some (.int x3), none], [.int s0], σ) = Lq G d M_261 (28, [some (.ref 0), some (.int x1), some (.int x2), some (.int x3), some (.int s0)], [.int x1, .ref 17], σ) :=
  (aUn_eq (tkd G.1 G.2) tmi (aRun (tkd G.1 G.2) tmi tmt d) M_261 [] 4 (21, [some (.ref 0), some (.int x1), some (.int x2), some (.int x3), none], [.int s0], σ)).trans rfl
set_option maxRecDepth 20000 in
theorem q_261_3046 (G : Nat × (Nat → Int32)) (d : Nat) (x1 : Int32) (x2 : Int32) (x3 : Int32) (x4 : Int32) (s0 : Int32) (σ : aH) : Lq G d M_261 (28, [some (.ref 0), some (.int x1), some (.int x2), some (.int x3), some (.int x4)], [.int s0, .ref 17], σ) = aCI (Rn G d 220 [.ref 17, .int s0] σ) fun v2 σ1 => Lq G d M_261 (31, [some (.ref 0), some (.int x1), some (.int x2), some (.int x3), some (.int x4)], [.int v2], σ1) :=
  (aUn_eq (tkd G.1 G.2) tmi (aRun (tkd G.1 G.2) tmi tmt d) M_261 [] 1 (28, [some (.ref 0), some (.int x1), some (.int x2), some (.int x3), some (.int x4)], [.int s0, .ref 17], σ)).trans rfl
set_option maxRecDepth 20000 in
theorem q_261_3047 (G : Nat × (Nat → Int32)) (d : Nat) (x1 : Int32) (x2 : Int32) (x3 : Int32) (x4 : Int32) (s0 : Int32) (σ : aH) : Lq G d M_261 (31, [some (.ref 0), some (.int x1), some (.int x2), some (.int x3), some (.int x4)], [.int s0], σ) = if s0 = 0 then Lq G d M_261 (144, [some (.ref 0), some (.int x1), some (.int x2), some (.int x3), some (.int x4)], [], σ) else Lq G d M_261 (34, [some (.ref 0), some (.int x1), some (.int x2), some (.int x3), some (.int x4)], [], σ) :=
  (aUn_eq (tkd G.1 G.2) tmi (aRun (tkd G.1 G.2) tmi tmt d) M_261 [] 1 (31, [some (.ref 0), some (.int x1), some (.int x2), some (.int x3), some (.int x4)], [.int s0], σ)).trans rfl
set_option maxRecDepth 20000 in
theorem q_261_3048 (G : Nat × (Nat → Int32)) (d : Nat) (x1 : Int32) (x2 : Int32) (x3 : Int32) (x4 : Int32) (σ : aH) : Lq G d M_261 (144, [some (.ref 0), some (.int x1), some (.int x2), some (.int x3), some (.int x4)], [], σ) = Lq G d M_261 (145, [some (.ref 0), some (.int x1), some (.int x2), some (.int x3), some (.int x4)], [.int (0 : Int32)], σ) :=
  (aUn_eq (tkd G.1 G.2) tmi (aRun (tkd G.1 G.2) tmi tmt d) M_261 [] 1 (144, [some (.ref 0), some (.int x1), some (.int x2), some (.int x3), some (.int x4)], [], σ)).trans rfl
set_option maxRecDepth 20000 in
theorem q_261_3049 (G : Nat × (Nat → Int32)) (d : Nat) (x1 : Int32) (x2 : Int32) (x3 : Int32) (x4 : Int32) (s0 : Int32) (σ : aH) : Lq G d M_261 (145, [some (.ref 0), some (.int x1), some (.int x2), some (.int x3), some (.int x4)], [.int s0], σ) = aNar .boolean (s0) (some (.inl (some (.int s0)), σ)) :=
  (aUn_eq (tkd G.1 G.2) tmi (aRun (tkd G.1 G.2) tmi tmt d) M_261 [] 1 (145, [some (.ref 0), some (.int x1), some (.int x2), some (.int x3), some (.int x4)], [.int s0], σ)).trans rfl
set_option maxRecDepth 20000 in
theorem q_261_3050 (G : Nat × (Nat → Int32)) (d : Nat) (x1 : Int32) (x2 : Int32) (x3 : Int32) (x4 : Int32) (σ : aH) : Lq G d M_261 (34, [some (.ref 0), some (.int x1), some (.int x2), some (.int x3), some (.int x4)], [], σ) = Lq G d M_261 (39, [some (.ref 0), some (.int x1), some (.int x2), some (.int x3), some (.int x4)], [.int x2, .ref 17], σ) :=
  (aUn_eq (tkd G.1 G.2) tmi (aRun (tkd G.1 G.2) tmi tmt d) M_261 [] 3 (34, [some (.ref 0), some (.int x1), some (.int x2), some (.int x3), some (.int x4)], [], σ)).trans rfl
set_option maxRecDepth 20000 in
theorem q_261_3051 (G : Nat × (Nat → Int32)) (d : Nat) (x1 : Int32) (x2 : Int32) (x3 : Int32) (x4 : Int32) (s0 : Int32) (σ : aH) : Lq G d M_261 (39, [some (.ref 0), some (.int x1), some (.int x2), some (.int x3), some (.int x4)], [.int s0, .ref 17], σ) = aCI (Rn G d 220 [.ref 17, .int s0] σ) fun v2 σ1 => Lq G d M_261 (42, [some (.ref 0), some (.int x1), some (.int x2), some (.int x3), some (.int x4)], [.int v2], σ1) :=
  (aUn_eq (tkd G.1 G.2) tmi (aRun (tkd G.1 G.2) tmi tmt d) M_261 [] 1 (39, [some (.ref 0), some (.int x1), some (.int x2), some (.int x3), some (.int x4)], [.int s0, .ref 17], σ)).trans rfl
set_option maxRecDepth 20000 in
theorem q_261_3052 (G : Nat × (Nat → Int32)) (d : Nat) (x1 : Int32) (x2 : Int32) (x3 : Int32) (x4 : Int32) (s0 : Int32) (σ : aH) : Lq G d M_261 (42, [some (.ref 0), some (.int x1), some (.int x2), some (.int x3), some (.int x4)], [.int s0], σ) = if s0 = 0 then Lq G d M_261 (144, [some (.ref 0), some (.int x1), some (.int x2), some (.int x3), some (.int x4)], [], σ) else Lq G d M_261 (45, [some (.ref 0), some (.int x1), some (.int x2), some (.int x3), some (.int x4)], [], σ) :=
  (aUn_eq (tkd G.1 G.2) tmi (aRun (tkd G.1 G.2) tmi tmt d) M_261 [] 1 (42, [some (.ref 0), some (.int x1), some (.int x2), some (.int x3), some (.int x4)], [.int s0], σ)).trans rfl
set_option maxRecDepth 20000 in
theorem q_261_3053 (G : Nat × (Nat → Int32)) (d : Nat) (x1 : Int32) (x2 : Int32) (x3 : Int32) (x4 : Int32) (σ : aH) : Lq G d M_261 (45, [some (.ref 0), some (.int x1), some (.int x2), some (.int x3), some (.int x4)], [], σ) = Lq G d M_261 (52, [some (.ref 0), some (.int x1), some (.int x2), some (.int x3), some (.int x4)], [.int (16 : Int32), .int x1, .ref 13], σ) :=
  (aUn_eq (tkd G.1 G.2) tmi (aRun (tkd G.1 G.2) tmi tmt d) M_261 [] 4 (45, [some (.ref 0), some (.int x1), some (.int x2), some (.int x3), some (.int x4)], [], σ)).trans rfl
set_option maxRecDepth 20000 in
theorem q_261_3054 (G : Nat × (Nat → Int32)) (d : Nat) (x1 : Int32) (x2 : Int32) (x3 : Int32) (x4 : Int32) (s0 : Int32) (s1 : Int32) (σ : aH) : Lq G d M_261 (52, [some (.ref 0), some (.int x1), some (.int x2), some (.int x3), some (.int x4)], [.int s0, .int s1, .ref 13], σ) = aCI (Rn G d 117 [.ref 13, .int s1, .int s0] σ) fun v2 σ1 => Lq G d M_261 (55, [some (.ref 0), some (.int x1), some (.int x2), some (.int x3), some (.int x4)], [.int v2], σ1) :=
  (aUn_eq (tkd G.1 G.2) tmi (aRun (tkd G.1 G.2) tmi tmt d) M_261 [] 1 (52, [some (.ref 0), some (.int x1), some (.int x2), some (.int x3), some (.int x4)], [.int s0, .int s1, .ref 13], σ)).trans rfl
set_option maxRecDepth 20000 in
theorem q_261_3055 (G : Nat × (Nat → Int32)) (d : Nat) (x1 : Int32) (x2 : Int32) (x3 : Int32) (x4 : Int32) (s0 : Int32) (σ : aH) : Lq G d M_261 (55, [some (.ref 0), some (.int x1), some (.int x2), some (.int x3), some (.int x4)], [.int s0], σ) = Lq G d M_261 (62, [some (.ref 0), some (.int x1), some (.int x2), some (.int x3), some (.int x4)], [.int (16 : Int32), .int x2, .ref 13, .int s0], σ) :=
  (aUn_eq (tkd G.1 G.2) tmi (aRun (tkd G.1 G.2) tmi tmt d) M_261 [] 4 (55, [some (.ref 0), some (.int x1), some (.int x2), some (.int x3), some (.int x4)], [.int s0], σ)).trans rfl
set_option maxRecDepth 20000 in
theorem q_261_3056 (G : Nat × (Nat → Int32)) (d : Nat) (x1 : Int32) (x2 : Int32) (x3 : Int32) (x4 : Int32) (s0 : Int32) (s1 : Int32) (s3 : Int32) (σ : aH) : Lq G d M_261 (62, [some (.ref 0), some (.int x1), some (.int x2), some (.int x3), some (.int x4)], [.int s0, .int s1, .ref 13, .int s3], σ) = aCI (Rn G d 117 [.ref 13, .int s1, .int s0] σ) fun v2 σ1 => Lq G d M_261 (65, [some (.ref 0), some (.int x1), some (.int x2), some (.int x3), some (.int x4)], [.int v2, .int s3], σ1) :=
  (aUn_eq (tkd G.1 G.2) tmi (aRun (tkd G.1 G.2) tmi tmt d) M_261 [] 1 (62, [some (.ref 0), some (.int x1), some (.int x2), some (.int x3), some (.int x4)], [.int s0, .int s1, .ref 13, .int s3], σ)).trans rfl
set_option maxRecDepth 20000 in
theorem q_261_3057 (G : Nat × (Nat → Int32)) (d : Nat) (x1 : Int32) (x2 : Int32) (x3 : Int32) (x4 : Int32) (s0 : Int32) (s1 : Int32) (σ : aH) : Lq G d M_261 (65, [some (.ref 0), some (.int x1), some (.int x2), some (.int x3), some (.int x4)], [.int s0, .int s1], σ) = if s1 = s0 then Lq G d M_261 (68, [some (.ref 0), some (.int x1), some (.int x2), some (.int x3), some (.int x4)], [], σ) else Lq G d M_261 (144, [some (.ref 0), some (.int x1), some (.int x2), some (.int x3), some (.int x4)], [], σ) :=
  (aUn_eq (tkd G.1 G.2) tmi (aRun (tkd G.1 G.2) tmi tmt d) M_261 [] 1 (65, [some (.ref 0), some (.int x1), some (.int x2), some (.int x3), some (.int x4)], [.int s0, .int s1], σ)).trans rfl
set_option maxRecDepth 20000 in
theorem q_261_3058 (G : Nat × (Nat → Int32)) (d : Nat) (x1 : Int32) (x2 : Int32) (x3 : Int32) (x4 : Int32) (σ : aH) : Lq G d M_261 (68, [some (.ref 0), some (.int x1), some (.int x2), some (.int x3), some (.int x4)], [], σ) = Lq G d M_261 (75, [some (.ref 0), some (.int x1), some (.int x2), some (.int x3), some (.int x4)], [.int (4 : Int32), .int x3, .int (1 : Int32), .ref 3], σ) :=
  (aUn_eq (tkd G.1 G.2) tmi (aRun (tkd G.1 G.2) tmi tmt d) M_261 [] 5 (68, [some (.ref 0), some (.int x1), some (.int x2), some (.int x3), some (.int x4)], [], σ)).trans rfl
set_option maxRecDepth 20000 in
theorem q_261_3059 (G : Nat × (Nat → Int32)) (d : Nat) (x1 : Int32) (x2 : Int32) (x3 : Int32) (x4 : Int32) (s0 : Int32) (s1 : Int32) (s2 : Int32) (σ : aH) : Lq G d M_261 (75, [some (.ref 0), some (.int x1), some (.int x2), some (.int x3), some (.int x4)], [.int s0, .int s1, .int s2, .ref 3], σ) = aCI (Rn G d 119 [.ref 3, .int s2, .int s1, .int s0] σ) fun v2 σ1 => Lq G d M_261 (78, [some (.ref 0), some (.int x1), some (.int x2), some (.int x3), some (.int x4)], [.int v2], σ1) :=
  (aUn_eq (tkd G.1 G.2) tmi (aRun (tkd G.1 G.2) tmi tmt d) M_261 [] 1 (75, [some (.ref 0), some (.int x1), some (.int x2), some (.int x3), some (.int x4)], [.int s0, .int s1, .int s2, .ref 3], σ)).trans rfl
set_option maxRecDepth 20000 in
theorem q_261_3060 (G : Nat × (Nat → Int32)) (d : Nat) (x1 : Int32) (x2 : Int32) (x3 : Int32) (x4 : Int32) (s0 : Int32) (σ : aH) : Lq G d M_261 (78, [some (.ref 0), some (.int x1), some (.int x2), some (.int x3), some (.int x4)], [.int s0], σ) = Lq G d M_261 (79, [some (.ref 0), some (.int x1), some (.int x2), some (.int x3), some (.int x4)], [.int (1 : Int32), .int s0], σ) :=
  (aUn_eq (tkd G.1 G.2) tmi (aRun (tkd G.1 G.2) tmi tmt d) M_261 [] 1 (78, [some (.ref 0), some (.int x1), some (.int x2), some (.int x3), some (.int x4)], [.int s0], σ)).trans rfl
set_option maxRecDepth 20000 in
theorem q_261_3061 (G : Nat × (Nat → Int32)) (d : Nat) (x1 : Int32) (x2 : Int32) (x3 : Int32) (x4 : Int32) (s0 : Int32) (s1 : Int32) (σ : aH) : Lq G d M_261 (79, [some (.ref 0), some (.int x1), some (.int x2), some (.int x3), some (.int x4)], [.int s0, .int s1], σ) = if s1 = s0 then Lq G d M_261 (82, [some (.ref 0), some (.int x1), some (.int x2), some (.int x3), some (.int x4)], [], σ) else Lq G d M_261 (144, [some (.ref 0), some (.int x1), some (.int x2), some (.int x3), some (.int x4)], [], σ) :=
  (aUn_eq (tkd G.1 G.2) tmi (aRun (tkd G.1 G.2) tmi tmt d) M_261 [] 1 (79, [some (.ref 0), some (.int x1), some (.int x2), some (.int x3), some (.int x4)], [.int s0, .int s1], σ)).trans rfl
set_option maxRecDepth 20000 in
theorem q_261_3062 (G : Nat × (Nat → Int32)) (d : Nat) (x1 : Int32) (x2 : Int32) (x3 : Int32) (x4 : Int32) (σ : aH) : Lq G d M_261 (82, [some (.ref 0), some (.int x1), some (.int x2), some (.int x3), some (.int x4)], [], σ) = Lq G d M_261 (90, [some (.ref 0), some (.int x1), some (.int x2), some (.int x3), some (.int x4)], [.int (4 : Int32), .int x4, .int (1 : Int32), .ref 3], σ) :=
  (aUn_eq (tkd G.1 G.2) tmi (aRun (tkd G.1 G.2) tmi tmt d) M_261 [] 5 (82, [some (.ref 0), some (.int x1), some (.int x2), some (.int x3), some (.int x4)], [], σ)).trans rfl
set_option maxRecDepth 20000 in
theorem q_261_3063 (G : Nat × (Nat → Int32)) (d : Nat) (x1 : Int32) (x2 : Int32) (x3 : Int32) (x4 : Int32) (s0 : Int32) (s1 : Int32) (s2 : Int32) (σ : aH) : Lq G d M_261 (90, [some (.ref 0), some (.int x1), some (.int x2), some (.int x3), some (.int x4)], [.int s0, .int s1, .int s2, .ref 3], σ) = aCI (Rn G d 119 [.ref 3, .int s2, .int s1, .int s0] σ) fun v2 σ1 => Lq G d M_261 (93, [some (.ref 0), some (.int x1), some (.int x2), some (.int x3), some (.int x4)], [.int v2], σ1) :=
  (aUn_eq (tkd G.1 G.2) tmi (aRun (tkd G.1 G.2) tmi tmt d) M_261 [] 1 (90, [some (.ref 0), some (.int x1), some (.int x2), some (.int x3), some (.int x4)], [.int s0, .int s1, .int s2, .ref 3], σ)).trans rfl
set_option maxRecDepth 20000 in
theorem q_261_3064 (G : Nat × (Nat → Int32)) (d : Nat) (x1 : Int32) (x2 : Int32) (x3 : Int32) (x4 : Int32) (s0 : Int32) (σ : aH) : Lq G d M_261 (93, [some (.ref 0), some (.int x1), some (.int x2), some (.int x3), some (.int x4)], [.int s0], σ) = if s0 = 0 then Lq G d M_261 (96, [some (.ref 0), some (.int x1), some (.int x2), some (.int x3), some (.int x4)], [], σ) else Lq G d M_261 (144, [some (.ref 0), some (.int x1), some (.int x2), some (.int x3), some (.int x4)], [], σ) :=
  (aUn_eq (tkd G.1 G.2) tmi (aRun (tkd G.1 G.2) tmi tmt d) M_261 [] 1 (93, [some (.ref 0), some (.int x1), some (.int x2), some (.int x3), some (.int x4)], [.int s0], σ)).trans rfl
set_option maxRecDepth 20000 in
theorem q_261_3065 (G : Nat × (Nat → Int32)) (d : Nat) (x1 : Int32) (x2 : Int32) (x3 : Int32) (x4 : Int32) (σ : aH) : Lq G d M_261 (96, [some (.ref 0), some (.int x1), some (.int x2), some (.int x3), some (.int x4)], [], σ) = Lq G d M_261 (101, [some (.ref 0), some (.int x1), some (.int x2), some (.int x3), some (.int x4)], [.int (0 : Int32), .int x4, .int x3, .ref 0], σ) :=
  (aUn_eq (tkd G.1 G.2) tmi (aRun (tkd G.1 G.2) tmi tmt d) M_261 [] 4 (96, [some (.ref 0), some (.int x1), some (.int x2), some (.int x3), some (.int x4)], [], σ)).trans rfl
set_option maxRecDepth 20000 in
theorem q_261_3066 (G : Nat × (Nat → Int32)) (d : Nat) (x1 : Int32) (x2 : Int32) (x3 : Int32) (x4 : Int32) (s0 : Int32) (s1 : Int32) (s2 : Int32) (σ : aH) : Lq G d M_261 (101, [some (.ref 0), some (.int x1), some (.int x2), some (.int x3), some (.int x4)], [.int s0, .int s1, .int s2, .ref 0], σ) = aCI (Rn G d 262 [.ref 0, .int s2, .int s1, .int s0] σ) fun v2 σ1 => Lq G d M_261 (104, [some (.ref 0), some (.int x1), some (.int x2), some (.int x3), some (.int x4)], [.int v2], σ1) :=
  (aUn_eq (tkd G.1 G.2) tmi (aRun (tkd G.1 G.2) tmi tmt d) M_261 [] 1 (101, [some (.ref 0), some (.int x1), some (.int x2), some (.int x3), some (.int x4)], [.int s0, .int s1, .int s2, .ref 0], σ)).trans rfl
set_option maxRecDepth 20000 in
theorem q_261_3067 (G : Nat × (Nat → Int32)) (d : Nat) (x1 : Int32) (x2 : Int32) (x3 : Int32) (x4 : Int32) (s0 : Int32) (σ : aH) : Lq G d M_261 (104, [some (.ref 0), some (.int x1), some (.int x2), some (.int x3), some (.int x4)], [.int s0], σ) = if s0 = 0 then Lq G d M_261 (144, [some (.ref 0), some (.int x1), some (.int x2), some (.int x3), some (.int x4)], [], σ) else Lq G d M_261 (107, [some (.ref 0), some (.int x1), some (.int x2), some (.int x3), some (.int x4)], [], σ) :=
  (aUn_eq (tkd G.1 G.2) tmi (aRun (tkd G.1 G.2) tmi tmt d) M_261 [] 1 (104, [some (.ref 0), some (.int x1), some (.int x2), some (.int x3), some (.int x4)], [.int s0], σ)).trans rfl
set_option maxRecDepth 20000 in
theorem q_261_3068 (G : Nat × (Nat → Int32)) (d : Nat) (x1 : Int32) (x2 : Int32) (x3 : Int32) (x4 : Int32) (σ : aH) : Lq G d M_261 (107, [some (.ref 0), some (.int x1), some (.int x2), some (.int x3), some (.int x4)], [], σ) = Lq G d M_261 (112, [some (.ref 0), some (.int x1), some (.int x2), some (.int x3), some (.int x4)], [.int (1 : Int32), .int x4, .int x3, .ref 0], σ) :=
  (aUn_eq (tkd G.1 G.2) tmi (aRun (tkd G.1 G.2) tmi tmt d) M_261 [] 4 (107, [some (.ref 0), some (.int x1), some (.int x2), some (.int x3), some (.int x4)], [], σ)).trans rfl
set_option maxRecDepth 20000 in
theorem q_261_3069 (G : Nat × (Nat → Int32)) (d : Nat) (x1 : Int32) (x2 : Int32) (x3 : Int32) (x4 : Int32) (s0 : Int32) (s1 : Int32) (s2 : Int32) (σ : aH) : Lq G d M_261 (112, [some (.ref 0), some (.int x1), some (.int x2), some (.int x3), some (.int x4)], [.int s0, .int s1, .int s2, .ref 0], σ) = aCI (Rn G d 262 [.ref 0, .int s2, .int s1, .int s0] σ) fun v2 σ1 => Lq G d M_261 (115, [some (.ref 0), some (.int x1), some (.int x2), some (.int x3), some (.int x4)], [.int v2], σ1) :=
  (aUn_eq (tkd G.1 G.2) tmi (aRun (tkd G.1 G.2) tmi tmt d) M_261 [] 1 (112, [some (.ref 0), some (.int x1), some (.int x2), some (.int x3), some (.int x4)], [.int s0, .int s1, .int s2, .ref 0], σ)).trans rfl
set_option maxRecDepth 20000 in
theorem q_261_3070 (G : Nat × (Nat → Int32)) (d : Nat) (x1 : Int32) (x2 : Int32) (x3 : Int32) (x4 : Int32) (s0 : Int32) (σ : aH) : Lq G d M_261 (115, [some (.ref 0), some (.int x1), some (.int x2), some (.int x3), some (.int x4)], [.int s0], σ) = if s0 = 0 then Lq G d M_261 (144, [some (.ref 0), some (.int x1), some (.int x2), some (.int x3), some (.int x4)], [], σ) else Lq G d M_261 (118, [some (.ref 0), some (.int x1), some (.int x2), some (.int x3), some (.int x4)], [], σ) :=
  (aUn_eq (tkd G.1 G.2) tmi (aRun (tkd G.1 G.2) tmi tmt d) M_261 [] 1 (115, [some (.ref 0), some (.int x1), some (.int x2), some (.int x3), some (.int x4)], [.int s0], σ)).trans rfl
set_option maxRecDepth 20000 in
theorem q_261_3071 (G : Nat × (Nat → Int32)) (d : Nat) (x1 : Int32) (x2 : Int32) (x3 : Int32) (x4 : Int32) (σ : aH) : Lq G d M_261 (118, [some (.ref 0), some (.int x1), some (.int x2), some (.int x3), some (.int x4)], [], σ) = Lq G d M_261 (123, [some (.ref 0), some (.int x1), some (.int x2), some (.int x3), some (.int x4)], [.int (2 : Int32), .int x4, .int x3, .ref 0], σ) :=
  (aUn_eq (tkd G.1 G.2) tmi (aRun (tkd G.1 G.2) tmi tmt d) M_261 [] 4 (118, [some (.ref 0), some (.int x1), some (.int x2), some (.int x3), some (.int x4)], [], σ)).trans rfl
set_option maxRecDepth 20000 in
theorem q_261_3072 (G : Nat × (Nat → Int32)) (d : Nat) (x1 : Int32) (x2 : Int32) (x3 : Int32) (x4 : Int32) (s0 : Int32) (s1 : Int32) (s2 : Int32) (σ : aH) : Lq G d M_261 (123, [some (.ref 0), some (.int x1), some (.int x2), some (.int x3), some (.int x4)], [.int s0, .int s1, .int s2, .ref 0], σ) = aCI (Rn G d 262 [.ref 0, .int s2, .int s1, .int s0] σ) fun v2 σ1 => Lq G d M_261 (126, [some (.ref 0), some (.int x1), some (.int x2), some (.int x3), some (.int x4)], [.int v2], σ1) :=
  (aUn_eq (tkd G.1 G.2) tmi (aRun (tkd G.1 G.2) tmi tmt d) M_261 [] 1 (123, [some (.ref 0), some (.int x1), some (.int x2), some (.int x3), some (.int x4)], [.int s0, .int s1, .int s2, .ref 0], σ)).trans rfl
set_option maxRecDepth 20000 in
theorem q_261_3073 (G : Nat × (Nat → Int32)) (d : Nat) (x1 : Int32) (x2 : Int32) (x3 : Int32) (x4 : Int32) (s0 : Int32) (σ : aH) : Lq G d M_261 (126, [some (.ref 0), some (.int x1), some (.int x2), some (.int x3), some (.int x4)], [.int s0], σ) = if s0 = 0 then Lq G d M_261 (144, [some (.ref 0), some (.int x1), some (.int x2), some (.int x3), some (.int x4)], [], σ) else Lq G d M_261 (129, [some (.ref 0), some (.int x1), some (.int x2), some (.int x3), some (.int x4)], [], σ) :=
  (aUn_eq (tkd G.1 G.2) tmi (aRun (tkd G.1 G.2) tmi tmt d) M_261 [] 1 (126, [some (.ref 0), some (.int x1), some (.int x2), some (.int x3), some (.int x4)], [.int s0], σ)).trans rfl
set_option maxRecDepth 20000 in
theorem q_261_3074 (G : Nat × (Nat → Int32)) (d : Nat) (x1 : Int32) (x2 : Int32) (x3 : Int32) (x4 : Int32) (σ : aH) : Lq G d M_261 (129, [some (.ref 0), some (.int x1), some (.int x2), some (.int x3), some (.int x4)], [], σ) = Lq G d M_261 (134, [some (.ref 0), some (.int x1), some (.int x2), some (.int x3), some (.int x4)], [.int (3 : Int32), .int x4, .int x3, .ref 0], σ) :=
  (aUn_eq (tkd G.1 G.2) tmi (aRun (tkd G.1 G.2) tmi tmt d) M_261 [] 4 (129, [some (.ref 0), some (.int x1), some (.int x2), some (.int x3), some (.int x4)], [], σ)).trans rfl
set_option maxRecDepth 20000 in
theorem q_261_3075 (G : Nat × (Nat → Int32)) (d : Nat) (x1 : Int32) (x2 : Int32) (x3 : Int32) (x4 : Int32) (s0 : Int32) (s1 : Int32) (s2 : Int32) (σ : aH) : Lq G d M_261 (134, [some (.ref 0), some (.int x1), some (.int x2), some (.int x3), some (.int x4)], [.int s0, .int s1, .int s2, .ref 0], σ) = aCI (Rn G d 262 [.ref 0, .int s2, .int s1, .int s0] σ) fun v2 σ1 => Lq G d M_261 (137, [some (.ref 0), some (.int x1), some (.int x2), some (.int x3), some (.int x4)], [.int v2], σ1) :=
  (aUn_eq (tkd G.1 G.2) tmi (aRun (tkd G.1 G.2) tmi tmt d) M_261 [] 1 (134, [some (.ref 0), some (.int x1), some (.int x2), some (.int x3), some (.int x4)], [.int s0, .int s1, .int s2, .ref 0], σ)).trans rfl
set_option maxRecDepth 20000 in
theorem q_261_3076 (G : Nat × (Nat → Int32)) (d : Nat) (x1 : Int32) (x2 : Int32) (x3 : Int32) (x4 : Int32) (s0 : Int32) (σ : aH) : Lq G d M_261 (137, [some (.ref 0), some (.int x1), some (.int x2), some (.int x3), some (.int x4)], [.int s0], σ) = if s0 = 0 then Lq G d M_261 (144, [some (.ref 0), some (.int x1), some (.int x2), some (.int x3), some (.int x4)], [], σ) else Lq G d M_261 (140, [some (.ref 0), some (.int x1), some (.int x2), some (.int x3), some (.int x4)], [], σ) :=
  (aUn_eq (tkd G.1 G.2) tmi (aRun (tkd G.1 G.2) tmi tmt d) M_261 [] 1 (137, [some (.ref 0), some (.int x1), some (.int x2), some (.int x3), some (.int x4)], [.int s0], σ)).trans rfl
set_option maxRecDepth 20000 in
theorem q_261_3077 (G : Nat × (Nat → Int32)) (d : Nat) (x1 : Int32) (x2 : Int32) (x3 : Int32) (x4 : Int32) (σ : aH) : Lq G d M_261 (140, [some (.ref 0), some (.int x1), some (.int x2), some (.int x3), some (.int x4)], [], σ) = Lq G d M_261 (145, [some (.ref 0), some (.int x1), some (.int x2), some (.int x3), some (.int x4)], [.int (1 : Int32)], σ) :=
  (aUn_eq (tkd G.1 G.2) tmi (aRun (tkd G.1 G.2) tmi tmt d) M_261 [] 2 (140, [some (.ref 0), some (.int x1), some (.int x2), some (.int x3), some (.int x4)], [], σ)).trans rfl
set_option maxRecDepth 20000 in
theorem q_266_3078 (G : Nat × (Nat → Int32)) (d : Nat) (x0 : Int64) (x2 : Int64) (σ : aH) : Lq G d M_266 (0, [some (.long x0), none, some (.long x2), none], [], σ) = Lq G d M_266 (3, [some (.long x0), none, some (.long x2), none], [.int (lg_cmp x2 (0 : Int64))], σ) :=
  (aUn_eq (tkd G.1 G.2) tmi (aRun (tkd G.1 G.2) tmi tmt d) M_266 [] 3 (0, [some (.long x0), none, some (.long x2), none], [], σ)).trans rfl
set_option maxRecDepth 20000 in
theorem q_266_3079 (G : Nat × (Nat → Int32)) (d : Nat) (x0 : Int64) (x2 : Int64) (s0 : Int32) (σ : aH) : Lq G d M_266 (3, [some (.long x0), none, some (.long x2), none], [.int s0], σ) = if s0 = 0 then Lq G d M_266 (6, [some (.long x0), none, some (.long x2), none], [], σ) else Lq G d M_266 (10, [some (.long x0), none, some (.long x2), none], [], σ) :=
  (aUn_eq (tkd G.1 G.2) tmi (aRun (tkd G.1 G.2) tmi tmt d) M_266 [] 1 (3, [some (.long x0), none, some (.long x2), none], [.int s0], σ)).trans rfl
set_option maxRecDepth 20000 in
theorem q_266_3080 (G : Nat × (Nat → Int32)) (d : Nat) (x0 : Int64) (x2 : Int64) (σ : aH) : Lq G d M_266 (6, [some (.long x0), none, some (.long x2), none], [], σ) = Lq G d M_266 (15, [some (.long x0), none, some (.long x2), none], [.long (0 : Int64)], σ) :=
  (aUn_eq (tkd G.1 G.2) tmi (aRun (tkd G.1 G.2) tmi tmt d) M_266 [] 2 (6, [some (.long x0), none, some (.long x2), none], [], σ)).trans rfl
set_option maxRecDepth 20000 in
theorem q_266_3081 (G : Nat × (Nat → Int32)) (d : Nat) (x0 : Int64) (x2 : Int64) (s0 : Int64) (σ : aH) : Lq G d M_266 (15, [some (.long x0), none, some (.long x2), none], [.long s0], σ) = some (.inl (some (.long s0)), σ) :=
  (aUn_eq (tkd G.1 G.2) tmi (aRun (tkd G.1 G.2) tmi tmt d) M_266 [] 1 (15, [some (.long x0), none, some (.long x2), none], [.long s0], σ)).trans rfl
set_option maxRecDepth 20000 in
theorem q_266_3082 (G : Nat × (Nat → Int32)) (d : Nat) (x0 : Int64) (x2 : Int64) (σ : aH) : Lq G d M_266 (10, [some (.long x0), none, some (.long x2), none], [], σ) = Lq G d M_266 (12, [some (.long x0), none, some (.long x2), none], [.long x2, .long x0], σ) :=
  (aUn_eq (tkd G.1 G.2) tmi (aRun (tkd G.1 G.2) tmi tmt d) M_266 [] 2 (10, [some (.long x0), none, some (.long x2), none], [], σ)).trans rfl
set_option maxRecDepth 20000 in
theorem q_266_3083 (G : Nat × (Nat → Int32)) (d : Nat) (x0 : Int64) (x2 : Int64) (s0 : Int64) (s1 : Int64) (σ : aH) : Lq G d M_266 (12, [some (.long x0), none, some (.long x2), none], [.long s0, .long s1], σ) = aCL (Rn G d 267 [.long s1, .long s0] σ) fun v2 σ1 => Lq G d M_266 (15, [some (.long x0), none, some (.long x2), none], [.long v2], σ1) :=
  (aUn_eq (tkd G.1 G.2) tmi (aRun (tkd G.1 G.2) tmi tmt d) M_266 [] 1 (12, [some (.long x0), none, some (.long x2), none], [.long s0, .long s1], σ)).trans rfl
set_option maxRecDepth 20000 in
theorem q_269_3084 (G : Nat × (Nat → Int32)) (d : Nat) (x0 : Int64) (x2 : Int64) (σ : aH) : Lq G d M_269 (0, [some (.long x0), none, some (.long x2), none, none, none], [], σ) = Lq G d M_269 (2, [some (.long x0), none, some (.long x2), none, none, none], [.long x2, .long x0], σ) :=
  (aUn_eq (tkd G.1 G.2) tmi (aRun (tkd G.1 G.2) tmi tmt d) M_269 [] 2 (0, [some (.long x0), none, some (.long x2), none, none, none], [], σ)).trans rfl
set_option maxRecDepth 20000 in
theorem q_269_3085 (G : Nat × (Nat → Int32)) (d : Nat) (x0 : Int64) (x2 : Int64) (s0 : Int64) (s1 : Int64) (σ : aH) : Lq G d M_269 (2, [some (.long x0), none, some (.long x2), none, none, none], [.long s0, .long s1], σ) = aNzL (s0) (Lq G d M_269 (3, [some (.long x0), none, some (.long x2), none, none, none], [.long (s1 / s0)], σ)) :=
  (aUn_eq (tkd G.1 G.2) tmi (aRun (tkd G.1 G.2) tmi tmt d) M_269 [] 1 (2, [some (.long x0), none, some (.long x2), none, none, none], [.long s0, .long s1], σ)).trans rfl
set_option maxRecDepth 20000 in
theorem q_269_3086 (G : Nat × (Nat → Int32)) (d : Nat) (x0 : Int64) (x2 : Int64) (s0 : Int64) (σ : aH) : Lq G d M_269 (3, [some (.long x0), none, some (.long x2), none, none, none], [.long s0], σ) = Lq G d M_269 (7, [some (.long x0), none, some (.long x2), none, some (.long s0), none], [.long x2, .long x0], σ) :=
  (aUn_eq (tkd G.1 G.2) tmi (aRun (tkd G.1 G.2) tmi tmt d) M_269 [] 3 (3, [some (.long x0), none, some (.long x2), none, none, none], [.long s0], σ)).trans rfl
set_option maxRecDepth 20000 in
theorem q_269_3087 (G : Nat × (Nat → Int32)) (d : Nat) (x0 : Int64) (x2 : Int64) (x4 : Int64) (s0 : Int64) (s1 : Int64) (σ : aH) : Lq G d M_269 (7, [some (.long x0), none, some (.long x2), none, some (.long x4), none], [.long s0, .long s1], σ) = aNzL (s0) (Lq G d M_269 (8, [some (.long x0), none, some (.long x2), none, some (.long x4), none], [.long (s1 - s1 / s0 * s0)], σ)) :=
  (aUn_eq (tkd G.1 G.2) tmi (aRun (tkd G.1 G.2) tmi tmt d) M_269 [] 1 (7, [some (.long x0), none, some (.long x2), none, some (.long x4), none], [.long s0, .long s1], σ)).trans rfl
set_option maxRecDepth 20000 in
theorem q_269_3088 (G : Nat × (Nat → Int32)) (d : Nat) (x0 : Int64) (x2 : Int64) (x4 : Int64) (s0 : Int64) (σ : aH) : Lq G d M_269 (8, [some (.long x0), none, some (.long x2), none, some (.long x4), none], [.long s0], σ) = Lq G d M_269 (10, [some (.long x0), none, some (.long x2), none, some (.long x4), none], [.int (lg_cmp s0 (0 : Int64))], σ) :=
  (aUn_eq (tkd G.1 G.2) tmi (aRun (tkd G.1 G.2) tmi tmt d) M_269 [] 2 (8, [some (.long x0), none, some (.long x2), none, some (.long x4), none], [.long s0], σ)).trans rfl
set_option maxRecDepth 20000 in
theorem q_269_3089 (G : Nat × (Nat → Int32)) (d : Nat) (x0 : Int64) (x2 : Int64) (x4 : Int64) (s0 : Int32) (σ : aH) : Lq G d M_269 (10, [some (.long x0), none, some (.long x2), none, some (.long x4), none], [.int s0], σ) = if s0 = 0 then Lq G d M_269 (45, [some (.long x0), none, some (.long x2), none, some (.long x4), none], [], σ) else Lq G d M_269 (13, [some (.long x0), none, some (.long x2), none, some (.long x4), none], [], σ) :=
  (aUn_eq (tkd G.1 G.2) tmi (aRun (tkd G.1 G.2) tmi tmt d) M_269 [] 1 (10, [some (.long x0), none, some (.long x2), none, some (.long x4), none], [.int s0], σ)).trans rfl
set_option maxRecDepth 20000 in
theorem q_269_3090 (G : Nat × (Nat → Int32)) (d : Nat) (x0 : Int64) (x2 : Int64) (x4 : Int64) (σ : aH) : Lq G d M_269 (45, [some (.long x0), none, some (.long x2), none, some (.long x4), none], [], σ) = Lq G d M_269 (47, [some (.long x0), none, some (.long x2), none, some (.long x4), none], [.long x4], σ) :=
  (aUn_eq (tkd G.1 G.2) tmi (aRun (tkd G.1 G.2) tmi tmt d) M_269 [] 1 (45, [some (.long x0), none, some (.long x2), none, some (.long x4), none], [], σ)).trans rfl
set_option maxRecDepth 20000 in
theorem q_269_3091 (G : Nat × (Nat → Int32)) (d : Nat) (x0 : Int64) (x2 : Int64) (x4 : Int64) (s0 : Int64) (σ : aH) : Lq G d M_269 (47, [some (.long x0), none, some (.long x2), none, some (.long x4), none], [.long s0], σ) = some (.inl (some (.long s0)), σ) :=
  (aUn_eq (tkd G.1 G.2) tmi (aRun (tkd G.1 G.2) tmi tmt d) M_269 [] 1 (47, [some (.long x0), none, some (.long x2), none, some (.long x4), none], [.long s0], σ)).trans rfl
set_option maxRecDepth 20000 in
theorem q_269_3092 (G : Nat × (Nat → Int32)) (d : Nat) (x0 : Int64) (x2 : Int64) (x4 : Int64) (σ : aH) : Lq G d M_269 (13, [some (.long x0), none, some (.long x2), none, some (.long x4), none], [], σ) = Lq G d M_269 (16, [some (.long x0), none, some (.long x2), none, some (.long x4), none], [.int (lg_cmp x0 (0 : Int64))], σ) :=
  (aUn_eq (tkd G.1 G.2) tmi (aRun (tkd G.1 G.2) tmi tmt d) M_269 [] 3 (13, [some (.long x0), none, some (.long x2), none, some (.long x4), none], [], σ)).trans rfl
set_option maxRecDepth 20000 in
theorem q_269_3093 (G : Nat × (Nat → Int32)) (d : Nat) (x0 : Int64) (x2 : Int64) (x4 : Int64) (s0 : Int32) (σ : aH) : Lq G d M_269 (16, [some (.long x0), none, some (.long x2), none, some (.long x4), none], [.int s0], σ) = if 0 ≤ s0 then Lq G d M_269 (23, [some (.long x0), none, some (.long x2), none, some (.long x4), none], [], σ) else Lq G d M_269 (19, [some (.long x0), none, some (.long x2), none, some (.long x4), none], [], σ) :=
  (aUn_eq (tkd G.1 G.2) tmi (aRun (tkd G.1 G.2) tmi tmt d) M_269 [] 1 (16, [some (.long x0), none, some (.long x2), none, some (.long x4), none], [.int s0], σ)).trans rfl
set_option maxRecDepth 20000 in
theorem q_269_3094 (G : Nat × (Nat → Int32)) (d : Nat) (x0 : Int64) (x2 : Int64) (x4 : Int64) (σ : aH) : Lq G d M_269 (23, [some (.long x0), none, some (.long x2), none, some (.long x4), none], [], σ) = Lq G d M_269 (27, [some (.long x0), none, some (.long x2), none, some (.long x4), none], [.int (lg_cmp x2 (0 : Int64)), .int (0 : Int32)], σ) :=
  (aUn_eq (tkd G.1 G.2) tmi (aRun (tkd G.1 G.2) tmi tmt d) M_269 [] 4 (23, [some (.long x0), none, some (.long x2), none, some (.long x4), none], [], σ)).trans rfl
set_option maxRecDepth 20000 in
theorem q_269_3095 (G : Nat × (Nat → Int32)) (d : Nat) (x0 : Int64) (x2 : Int64) (x4 : Int64) (s0 : Int32) (s1 : Int32) (σ : aH) : Lq G d M_269 (27, [some (.long x0), none, some (.long x2), none, some (.long x4), none], [.int s0, .int s1], σ) = if 0 ≤ s0 then Lq G d M_269 (34, [some (.long x0), none, some (.long x2), none, some (.long x4), none], [.int s1], σ) else Lq G d M_269 (30, [some (.long x0), none, some (.long x2), none, some (.long x4), none], [.int s1], σ) :=
  (aUn_eq (tkd G.1 G.2) tmi (aRun (tkd G.1 G.2) tmi tmt d) M_269 [] 1 (27, [some (.long x0), none, some (.long x2), none, some (.long x4), none], [.int s0, .int s1], σ)).trans rfl
set_option maxRecDepth 20000 in
theorem q_269_3096 (G : Nat × (Nat → Int32)) (d : Nat) (x0 : Int64) (x2 : Int64) (x4 : Int64) (s0 : Int32) (σ : aH) : Lq G d M_269 (34, [some (.long x0), none, some (.long x2), none, some (.long x4), none], [.int s0], σ) = Lq G d M_269 (35, [some (.long x0), none, some (.long x2), none, some (.long x4), none], [.int (0 : Int32), .int s0], σ) :=
  (aUn_eq (tkd G.1 G.2) tmi (aRun (tkd G.1 G.2) tmi tmt d) M_269 [] 1 (34, [some (.long x0), none, some (.long x2), none, some (.long x4), none], [.int s0], σ)).trans rfl
set_option maxRecDepth 20000 in
theorem q_269_3097 (G : Nat × (Nat → Int32)) (d : Nat) (x0 : Int64) (x2 : Int64) (x4 : Int64) (s0 : Int32) (s1 : Int32) (σ : aH) : Lq G d M_269 (35, [some (.long x0), none, some (.long x2), none, some (.long x4), none], [.int s0, .int s1], σ) = if s1 = s0 then Lq G d M_269 (45, [some (.long x0), none, some (.long x2), none, some (.long x4), none], [], σ) else Lq G d M_269 (38, [some (.long x0), none, some (.long x2), none, some (.long x4), none], [], σ) :=
  (aUn_eq (tkd G.1 G.2) tmi (aRun (tkd G.1 G.2) tmi tmt d) M_269 [] 1 (35, [some (.long x0), none, some (.long x2), none, some (.long x4), none], [.int s0, .int s1], σ)).trans rfl
set_option maxRecDepth 20000 in
theorem q_269_3098 (G : Nat × (Nat → Int32)) (d : Nat) (x0 : Int64) (x2 : Int64) (x4 : Int64) (σ : aH) : Lq G d M_269 (38, [some (.long x0), none, some (.long x2), none, some (.long x4), none], [], σ) = Lq G d M_269 (47, [some (.long x0), none, some (.long x2), none, some (.long x4), none], [.long (x4 - (1 : Int64))], σ) :=
  (aUn_eq (tkd G.1 G.2) tmi (aRun (tkd G.1 G.2) tmi tmt d) M_269 [] 4 (38, [some (.long x0), none, some (.long x2), none, some (.long x4), none], [], σ)).trans rfl
set_option maxRecDepth 20000 in
theorem q_269_3099 (G : Nat × (Nat → Int32)) (d : Nat) (x0 : Int64) (x2 : Int64) (x4 : Int64) (s0 : Int32) (σ : aH) : Lq G d M_269 (30, [some (.long x0), none, some (.long x2), none, some (.long x4), none], [.int s0], σ) = Lq G d M_269 (35, [some (.long x0), none, some (.long x2), none, some (.long x4), none], [.int (1 : Int32), .int s0], σ) :=
  (aUn_eq (tkd G.1 G.2) tmi (aRun (tkd G.1 G.2) tmi tmt d) M_269 [] 2 (30, [some (.long x0), none, some (.long x2), none, some (.long x4), none], [.int s0], σ)).trans rfl
set_option maxRecDepth 20000 in
theorem q_269_3100 (G : Nat × (Nat → Int32)) (d : Nat) (x0 : Int64) (x2 : Int64) (x4 : Int64) (σ : aH) : Lq G d M_269 (19, [some (.long x0), none, some (.long x2), none, some (.long x4), none], [], σ) = Lq G d M_269 (27, [some (.long x0), none, some (.long x2), none, some (.long x4), none], [.int (lg_cmp x2 (0 : Int64)), .int (1 : Int32)], σ) :=
  (aUn_eq (tkd G.1 G.2) tmi (aRun (tkd G.1 G.2) tmi tmt d) M_269 [] 5 (19, [some (.long x0), none, some (.long x2), none, some (.long x4), none], [], σ)).trans rfl
set_option maxRecDepth 20000 in
theorem q_275_3101 (G : Nat × (Nat → Int32)) (d : Nat) (x1 : Int32) (σ : aH) : Lq G d M_275 (0, [some (.ref 0), some (.int x1), none, none, none, none, none, none], [], σ) = Lq G d M_275 (5, [some (.ref 0), some (.int x1), none, none, none, none, none, none], [.int (2 : Int32), .ref 3], σ) :=
  (aUn_eq (tkd G.1 G.2) tmi (aRun (tkd G.1 G.2) tmi tmt d) M_275 [] 3 (0, [some (.ref 0), some (.int x1), none, none, none, none, none, none], [], σ)).trans rfl
set_option maxRecDepth 20000 in
theorem q_275_3102 (G : Nat × (Nat → Int32)) (d : Nat) (x1 : Int32) (s0 : Int32) (σ : aH) : Lq G d M_275 (5, [some (.ref 0), some (.int x1), none, none, none, none, none, none], [.int s0, .ref 3], σ) = aCI (Rn G d 98 [.ref 3, .int s0] σ) fun v2 σ1 => Lq G d M_275 (8, [some (.ref 0), some (.int x1), none, none, none, none, none, none], [.int v2], σ1) :=
  (aUn_eq (tkd G.1 G.2) tmi (aRun (tkd G.1 G.2) tmi tmt d) M_275 [] 1 (5, [some (.ref 0), some (.int x1), none, none, none, none, none, none], [.int s0, .ref 3], σ)).trans rfl
set_option maxRecDepth 20000 in
theorem q_275_3103 (G : Nat × (Nat → Int32)) (d : Nat) (x1 : Int32) (s0 : Int32) (σ : aH) : Lq G d M_275 (8, [some (.ref 0), some (.int x1), none, none, none, none, none, none], [.int s0], σ) = Lq G d M_275 (14, [some (.ref 0), some (.int x1), some (.int s0), none, none, none, none, none], [.int (0 : Int32), .ref 3], σ) :=
  (aUn_eq (tkd G.1 G.2) tmi (aRun (tkd G.1 G.2) tmi tmt d) M_275 [] 4 (8, [some (.ref 0), some (.int x1), none, none, none, none, none, none], [.int s0], σ)).trans rfl
set_option maxRecDepth 20000 in
theorem q_275_3104 (G : Nat × (Nat → Int32)) (d : Nat) (x1 : Int32) (x2 : Int32) (s0 : Int32) (σ : aH) : Lq G d M_275 (14, [some (.ref 0), some (.int x1), some (.int x2), none, none, none, none, none], [.int s0, .ref 3], σ) = aCI (Rn G d 98 [.ref 3, .int s0] σ) fun v2 σ1 => Lq G d M_275 (17, [some (.ref 0), some (.int x1), some (.int x2), none, none, none, none, none], [.int v2], σ1) :=
  (aUn_eq (tkd G.1 G.2) tmi (aRun (tkd G.1 G.2) tmi tmt d) M_275 [] 1 (14, [some (.ref 0), some (.int x1), some (.int x2), none, none, none, none, none], [.int s0, .ref 3], σ)).trans rfl
set_option maxRecDepth 20000 in
theorem q_275_3105 (G : Nat × (Nat → Int32)) (d : Nat) (x1 : Int32) (x2 : Int32) (s0 : Int32) (σ : aH) : Lq G d M_275 (17, [some (.ref 0), some (.int x1), some (.int x2), none, none, none, none, none], [.int s0], σ) = Lq G d M_275 (21, [some (.ref 0), some (.int x1), some (.int x2), some (.int s0), some (.int (0 : Int32)), none, none, none], [], σ) :=
  (aUn_eq (tkd G.1 G.2) tmi (aRun (tkd G.1 G.2) tmi tmt d) M_275 [] 3 (17, [some (.ref 0), some (.int x1), some (.int x2), none, none, none, none, none], [.int s0], σ)).trans rfl
set_option maxRecDepth 20000 in
theorem q_275_3106 (G : Nat × (Nat → Int32)) (d : Nat) (x1 : Int32) (x2 : Int32) (x3 : Int32) (x4 : Int32) (σ : aH) : Lq G d M_275 (21, [some (.ref 0), some (.int x1), some (.int x2), some (.int x3), some (.int x4), none, none, none], [], σ) = Lq G d M_275 (24, [some (.ref 0), some (.int x1), some (.int x2), some (.int x3), some (.int x4), none, none, none], [.int x2, .int x4], σ) :=
  (aUn_eq (tkd G.1 G.2) tmi (aRun (tkd G.1 G.2) tmi tmt d) M_275 [] 2 (21, [some (.ref 0), some (.int x1), some (.int x2), some (.int x3), some (.int x4), none, none, none], [], σ)).trans rfl
set_option maxRecDepth 20000 in
theorem q_275_3107 (G : Nat × (Nat → Int32)) (d : Nat) (x1 : Int32) (x2 : Int32) (x3 : Int32) (x4 : Int32) (s0 : Int32) (s1 : Int32) (σ : aH) : Lq G d M_275 (24, [some (.ref 0), some (.int x1), some (.int x2), some (.int x3), some (.int x4), none, none, none], [.int s0, .int s1], σ) = if s0 ≤ s1 then Lq G d M_275 (93, [some (.ref 0), some (.int x1), some (.int x2), some (.int x3), some (.int x4), none, none, none], [], σ) else Lq G d M_275 (27, [some (.ref 0), some (.int x1), some (.int x2), some (.int x3), some (.int x4), none, none, none], [], σ) :=
  (aUn_eq (tkd G.1 G.2) tmi (aRun (tkd G.1 G.2) tmi tmt d) M_275 [] 1 (24, [some (.ref 0), some (.int x1), some (.int x2), some (.int x3), some (.int x4), none, none, none], [.int s0, .int s1], σ)).trans rfl
set_option maxRecDepth 20000 in
theorem q_275_3108 (G : Nat × (Nat → Int32)) (d : Nat) (x1 : Int32) (x2 : Int32) (x3 : Int32) (x4 : Int32) (σ : aH) : Lq G d M_275 (93, [some (.ref 0), some (.int x1), some (.int x2), some (.int x3), some (.int x4), none, none, none], [], σ) = Lq G d M_275 (99, [some (.ref 0), none, some (.int x2), some (.int x3), some (.int (-1 : Int32)), some (.int (0 : Int32)), none, none], [], σ) :=
  (aUn_eq (tkd G.1 G.2) tmi (aRun (tkd G.1 G.2) tmi tmt d) M_275 [] 4 (93, [some (.ref 0), some (.int x1), some (.int x2), some (.int x3), some (.int x4), none, none, none], [], σ)).trans rfl
set_option maxRecDepth 20000 in
theorem q_275_3109 (G : Nat × (Nat → Int32)) (d : Nat) (x1 : Int32) (x2 : Int32) (x3 : Int32) (x4 : Int32) (σ : aH) : Lq G d M_275 (27, [some (.ref 0), some (.int x1), some (.int x2), some (.int x3), some (.int x4), none, none, none], [], σ) = Lq G d M_275 (30, [some (.ref 0), some (.int x1), some (.int x2), some (.int x3), some (.int x4), some (.int (0 : Int32)), none, none], [], σ) :=
  (aUn_eq (tkd G.1 G.2) tmi (aRun (tkd G.1 G.2) tmi tmt d) M_275 [] 2 (27, [some (.ref 0), some (.int x1), some (.int x2), some (.int x3), some (.int x4), none, none, none], [], σ)).trans rfl
set_option maxRecDepth 20000 in
theorem q_275_3110 (G : Nat × (Nat → Int32)) (d : Nat) (x2 : Int32) (x3 : Int32) (x4 : Int32) (x5 : Int32) (σ : aH) : Lq G d M_275 (99, [some (.ref 0), none, some (.int x2), some (.int x3), some (.int x4), some (.int x5), none, none], [], σ) = Lq G d M_275 (102, [some (.ref 0), none, some (.int x2), some (.int x3), some (.int x4), some (.int x5), none, none], [.int x2, .int x5], σ) :=
  (aUn_eq (tkd G.1 G.2) tmi (aRun (tkd G.1 G.2) tmi tmt d) M_275 [] 2 (99, [some (.ref 0), none, some (.int x2), some (.int x3), some (.int x4), some (.int x5), none, none], [], σ)).trans rfl
set_option maxRecDepth 20000 in
theorem q_275_3111 (G : Nat × (Nat → Int32)) (d : Nat) (x2 : Int32) (x3 : Int32) (x4 : Int32) (x5 : Int32) (s0 : Int32) (s1 : Int32) (σ : aH) : Lq G d M_275 (102, [some (.ref 0), none, some (.int x2), some (.int x3), some (.int x4), some (.int x5), none, none], [.int s0, .int s1], σ) = if s0 ≤ s1 then Lq G d M_275 (162, [some (.ref 0), none, some (.int x2), some (.int x3), some (.int x4), some (.int x5), none, none], [], σ) else Lq G d M_275 (105, [some (.ref 0), none, some (.int x2), some (.int x3), some (.int x4), some (.int x5), none, none], [], σ) :=
  (aUn_eq (tkd G.1 G.2) tmi (aRun (tkd G.1 G.2) tmi tmt d) M_275 [] 1 (102, [some (.ref 0), none, some (.int x2), some (.int x3), some (.int x4), some (.int x5), none, none], [.int s0, .int s1], σ)).trans rfl
set_option maxRecDepth 20000 in
theorem q_275_3112 (G : Nat × (Nat → Int32)) (d : Nat) (x2 : Int32) (x3 : Int32) (x4 : Int32) (x5 : Int32) (σ : aH) : Lq G d M_275 (162, [some (.ref 0), none, some (.int x2), some (.int x3), some (.int x4), some (.int x5), none, none], [], σ) = Lq G d M_275 (165, [some (.ref 0), none, some (.int x2), some (.int x3), some (.int x4), some (.int x5), none, none], [.int x4, .int (0 : Int32)], σ) :=
  (aUn_eq (tkd G.1 G.2) tmi (aRun (tkd G.1 G.2) tmi tmt d) M_275 [] 2 (162, [some (.ref 0), none, some (.int x2), some (.int x3), some (.int x4), some (.int x5), none, none], [], σ)).trans rfl
set_option maxRecDepth 20000 in
theorem q_275_3113 (G : Nat × (Nat → Int32)) (d : Nat) (x2 : Int32) (x3 : Int32) (x4 : Int32) (x5 : Int32) (s0 : Int32) (s1 : Int32) (σ : aH) : Lq G d M_275 (165, [some (.ref 0), none, some (.int x2), some (.int x3), some (.int x4), some (.int x5), none, none], [.int s0, .int s1], σ) = aCI (Rn G d 19 [.int s1, .int s0] σ) fun v2 σ1 => Lq G d M_275 (168, [some (.ref 0), none, some (.int x2), some (.int x3), some (.int x4), some (.int x5), none, none], [.int v2], σ1) :=
  (aUn_eq (tkd G.1 G.2) tmi (aRun (tkd G.1 G.2) tmi tmt d) M_275 [] 1 (165, [some (.ref 0), none, some (.int x2), some (.int x3), some (.int x4), some (.int x5), none, none], [.int s0, .int s1], σ)).trans rfl
set_option maxRecDepth 20000 in
theorem q_275_3114 (G : Nat × (Nat → Int32)) (d : Nat) (x2 : Int32) (x3 : Int32) (x4 : Int32) (x5 : Int32) (s0 : Int32) (σ : aH) : Lq G d M_275 (168, [some (.ref 0), none, some (.int x2), some (.int x3), some (.int x4), some (.int x5), none, none], [.int s0], σ) = some (.inl (some (.int s0)), σ) :=
  (aUn_eq (tkd G.1 G.2) tmi (aRun (tkd G.1 G.2) tmi tmt d) M_275 [] 1 (168, [some (.ref 0), none, some (.int x2), some (.int x3), some (.int x4), some (.int x5), none, none], [.int s0], σ)).trans rfl
set_option maxRecDepth 20000 in
theorem q_275_3115 (G : Nat × (Nat → Int32)) (d : Nat) (x2 : Int32) (x3 : Int32) (x4 : Int32) (x5 : Int32) (σ : aH) : Lq G d M_275 (105, [some (.ref 0), none, some (.int x2), some (.int x3), some (.int x4), some (.int x5), none, none], [], σ) = Lq G d M_275 (111, [some (.ref 0), none, some (.int x2), some (.int x3), some (.int x4), some (.int x5), some (.int (x5 + (1 : Int32))), none], [], σ) :=
  (aUn_eq (tkd G.1 G.2) tmi (aRun (tkd G.1 G.2) tmi tmt d) M_275 [] 4 (105, [some (.ref 0), none, some (.int x2), some (.int x3), some (.int x4), some (.int x5), none, none], [], σ)).trans rfl
set_option maxRecDepth 20000 in
theorem q_275_3116 (G : Nat × (Nat → Int32)) (d : Nat) (x1 : Int32) (x2 : Int32) (x3 : Int32) (x4 : Int32) (x5 : Int32) (σ : aH) : Lq G d M_275 (30, [some (.ref 0), some (.int x1), some (.int x2), some (.int x3), some (.int x4), some (.int x5), none, none], [], σ) = Lq G d M_275 (33, [some (.ref 0), some (.int x1), some (.int x2), some (.int x3), some (.int x4), some (.int x5), none, none], [.int x3, .int x5], σ) :=
  (aUn_eq (tkd G.1 G.2) tmi (aRun (tkd G.1 G.2) tmi tmt d) M_275 [] 2 (30, [some (.ref 0), some (.int x1), some (.int x2), some (.int x3), some (.int x4), some (.int x5), none, none], [], σ)).trans rfl
set_option maxRecDepth 20000 in
theorem q_275_3117 (G : Nat × (Nat → Int32)) (d : Nat) (x1 : Int32) (x2 : Int32) (x3 : Int32) (x4 : Int32) (x5 : Int32) (s0 : Int32) (s1 : Int32) (σ : aH) : Lq G d M_275 (33, [some (.ref 0), some (.int x1), some (.int x2), some (.int x3), some (.int x4), some (.int x5), none, none], [.int s0, .int s1], σ) = if s0 ≤ s1 then Lq G d M_275 (87, [some (.ref 0), some (.int x1), some (.int x2), some (.int x3), some (.int x4), some (.int x5), none, none], [], σ) else Lq G d M_275 (36, [some (.ref 0), some (.int x1), some (.int x2), some (.int x3), some (.int x4), some (.int x5), none, none], [], σ) :=
  (aUn_eq (tkd G.1 G.2) tmi (aRun (tkd G.1 G.2) tmi tmt d) M_275 [] 1 (33, [some (.ref 0), some (.int x1), some (.int x2), some (.int x3), some (.int x4), some (.int x5), none, none], [.int s0, .int s1], σ)).trans rfl
set_option maxRecDepth 20000 in
theorem q_275_3118 (G : Nat × (Nat → Int32)) (d : Nat) (x1 : Int32) (x2 : Int32) (x3 : Int32) (x4 : Int32) (x5 : Int32) (σ : aH) : Lq G d M_275 (87, [some (.ref 0), some (.int x1), some (.int x2), some (.int x3), some (.int x4), some (.int x5), none, none], [], σ) = Lq G d M_275 (21, [some (.ref 0), some (.int x1), some (.int x2), some (.int x3), some (.int (x4 + (1 : Int32))), none, none, none], [], σ) :=
  (aUn_eq (tkd G.1 G.2) tmi (aRun (tkd G.1 G.2) tmi tmt d) M_275 [] 2 (87, [some (.ref 0), some (.int x1), some (.int x2), some (.int x3), some (.int x4), some (.int x5), none, none], [], σ)).trans rfl
set_option maxRecDepth 20000 in
theorem q_275_3119 (G : Nat × (Nat → Int32)) (d : Nat) (x1 : Int32) (x2 : Int32) (x3 : Int32) (x4 : Int32) (x5 : Int32) (σ : aH) : Lq G d M_275 (36, [some (.ref 0), some (.int x1), some (.int x2), some (.int x3), some (.int x4), some (.int x5), none, none], [], σ) = Lq G d M_275 (49, [some (.ref 0), some (.int x1), some (.int x2), some (.int x3), some (.int x4), some (.int x5), none, none], [.int x1, .int x5, .int x4, .ref 3, .ref 24], σ) :=
  (aUn_eq (tkd G.1 G.2) tmi (aRun (tkd G.1 G.2) tmi tmt d) M_275 [] 7 (36, [some (.ref 0), some (.int x1), some (.int x2), some (.int x3), some (.int x4), some (.int x5), none, none], [], σ)).trans rfl
set_option maxRecDepth 20000 in
theorem q_275_3120 (G : Nat × (Nat → Int32)) (d : Nat) (x1 : Int32) (x2 : Int32) (x3 : Int32) (x4 : Int32) (x5 : Int32) (s0 : Int32) (s1 : Int32) (s2 : Int32) (σ : aH) : Lq G d M_275 (49, [some (.ref 0), some (.int x1), some (.int x2), some (.int x3), some (.int x4), some (.int x5), none, none], [.int s0, .int s1, .int s2, .ref 3, .ref 24], σ) = aCV (Rn G d 158 [.ref 24, .ref 3, .int s2, .int s1, .int s0] σ) fun σ1 => Lq G d M_275 (52, [some (.ref 0), some (.int x1), some (.int x2), some (.int x3), some (.int x4), some (.int x5), none, none], [], σ1) :=
  (aUn_eq (tkd G.1 G.2) tmi (aRun (tkd G.1 G.2) tmi tmt d) M_275 [] 1 (49, [some (.ref 0), some (.int x1), some (.int x2), some (.int x3), some (.int x4), some (.int x5), none, none], [.int s0, .int s1, .int s2, .ref 3, .ref 24], σ)).trans rfl
set_option maxRecDepth 20000 in
theorem q_275_3121 (G : Nat × (Nat → Int32)) (d : Nat) (x1 : Int32) (x2 : Int32) (x3 : Int32) (x4 : Int32) (x5 : Int32) (σ : aH) : Lq G d M_275 (52, [some (.ref 0), some (.int x1), some (.int x2), some (.int x3), some (.int x4), some (.int x5), none, none], [], σ) = Lq G d M_275 (56, [some (.ref 0), some (.int x1), some (.int x2), some (.int x3), some (.int x4), some (.int x5), none, none], [.ref 24], σ) :=
  (aUn_eq (tkd G.1 G.2) tmi (aRun (tkd G.1 G.2) tmi tmt d) M_275 [] 2 (52, [some (.ref 0), some (.int x1), some (.int x2), some (.int x3), some (.int x4), some (.int x5), none, none], [], σ)).trans rfl
set_option maxRecDepth 20000 in
theorem q_275_3122 (G : Nat × (Nat → Int32)) (d : Nat) (x1 : Int32) (x2 : Int32) (x3 : Int32) (x4 : Int32) (x5 : Int32) (σ : aH) : Lq G d M_275 (56, [some (.ref 0), some (.int x1), some (.int x2), some (.int x3), some (.int x4), some (.int x5), none, none], [.ref 24], σ) = aCV (Rn G d 176 [.ref 24] σ) fun σ1 => Lq G d M_275 (59, [some (.ref 0), some (.int x1), some (.int x2), some (.int x3), some (.int x4), some (.int x5), none, none], [], σ1) :=
  (aUn_eq (tkd G.1 G.2) tmi (aRun (tkd G.1 G.2) tmi tmt d) M_275 [] 1 (56, [some (.ref 0), some (.int x1), some (.int x2), some (.int x3), some (.int x4), some (.int x5), none, none], [.ref 24], σ)).trans rfl
set_option maxRecDepth 20000 in
theorem q_275_3123 (G : Nat × (Nat → Int32)) (d : Nat) (x1 : Int32) (x2 : Int32) (x3 : Int32) (x4 : Int32) (x5 : Int32) (σ : aH) : Lq G d M_275 (59, [some (.ref 0), some (.int x1), some (.int x2), some (.int x3), some (.int x4), some (.int x5), none, none], [], σ) = Lq G d M_275 (75, [some (.ref 0), some (.int x1), some (.int x2), some (.int x3), some (.int x4), some (.int x5), none, none], [.ref 24, .int ((x4 * (20 : Int32)) + x5), .ref 29], σ) :=
  (aUn_eq (tkd G.1 G.2) tmi (aRun (tkd G.1 G.2) tmi tmt d) M_275 [] 9 (59, [some (.ref 0), some (.int x1), some (.int x2), some (.int x3), some (.int x4), some (.int x5), none, none], [], σ)).trans rfl
set_option maxRecDepth 20000 in
theorem q_275_3124 (G : Nat × (Nat → Int32)) (d : Nat) (x1 : Int32) (x2 : Int32) (x3 : Int32) (x4 : Int32) (x5 : Int32) (s1 : Int32) (σ : aH) : Lq G d M_275 (75, [some (.ref 0), some (.int x1), some (.int x2), some (.int x3), some (.int x4), some (.int x5), none, none], [.ref 24, .int s1, .ref 29], σ) = aCI (Rn G d 177 [.ref 24] σ) fun v2 σ1 => Lq G d M_275 (78, [some (.ref 0), some (.int x1), some (.int x2), some (.int x3), some (.int x4), some (.int x5), none, none], [.int v2, .int s1, .ref 29], σ1) :=
  (aUn_eq (tkd G.1 G.2) tmi (aRun (tkd G.1 G.2) tmi tmt d) M_275 [] 1 (75, [some (.ref 0), some (.int x1), some (.int x2), some (.int x3), some (.int x4), some (.int x5), none, none], [.ref 24, .int s1, .ref 29], σ)).trans rfl
set_option maxRecDepth 20000 in
theorem q_275_3125 (G : Nat × (Nat → Int32)) (d : Nat) (x1 : Int32) (x2 : Int32) (x3 : Int32) (x4 : Int32) (x5 : Int32) (s0 : Int32) (s1 : Int32) (σ : aH) : Lq G d M_275 (78, [some (.ref 0), some (.int x1), some (.int x2), some (.int x3), some (.int x4), some (.int x5), none, none], [.int s0, .int s1, .ref 29], σ) = aCV (Rn G d 24 [.ref 29, .int s1, .int s0] σ) fun σ1 => Lq G d M_275 (81, [some (.ref 0), some (.int x1), some (.int x2), some (.int x3), some (.int x4), some (.int x5), none, none], [], σ1) :=
  (aUn_eq (tkd G.1 G.2) tmi (aRun (tkd G.1 G.2) tmi tmt d) M_275 [] 1 (78, [some (.ref 0), some (.int x1), some (.int x2), some (.int x3), some (.int x4), some (.int x5), none, none], [.int s0, .int s1, .ref 29], σ)).trans rfl
set_option maxRecDepth 20000 in
theorem q_275_3126 (G : Nat × (Nat → Int32)) (d : Nat) (x1 : Int32) (x2 : Int32) (x3 : Int32) (x4 : Int32) (x5 : Int32) (σ : aH) : Lq G d M_275 (81, [some (.ref 0), some (.int x1), some (.int x2), some (.int x3), some (.int x4), some (.int x5), none, none], [], σ) = Lq G d M_275 (30, [some (.ref 0), some (.int x1), some (.int x2), some (.int x3), some (.int x4), some (.int (x5 + (1 : Int32))), none, none], [], σ) :=
  (aUn_eq (tkd G.1 G.2) tmi (aRun (tkd G.1 G.2) tmi tmt d) M_275 [] 2 (81, [some (.ref 0), some (.int x1), some (.int x2), some (.int x3), some (.int x4), some (.int x5), none, none], [], σ)).trans rfl
set_option maxRecDepth 20000 in
theorem q_275_3127 (G : Nat × (Nat → Int32)) (d : Nat) (x2 : Int32) (x3 : Int32) (x4 : Int32) (x5 : Int32) (x6 : Int32) (σ : aH) : Lq G d M_275 (111, [some (.ref 0), none, some (.int x2), some (.int x3), some (.int x4), some (.int x5), some (.int x6), none], [], σ) = Lq G d M_275 (114, [some (.ref 0), none, some (.int x2), some (.int x3), some (.int x4), some (.int x5), some (.int x6), none], [.int x2, .int x6], σ) :=
  (aUn_eq (tkd G.1 G.2) tmi (aRun (tkd G.1 G.2) tmi tmt d) M_275 [] 2 (111, [some (.ref 0), none, some (.int x2), some (.int x3), some (.int x4), some (.int x5), some (.int x6), none], [], σ)).trans rfl
set_option maxRecDepth 20000 in
theorem q_275_3128 (G : Nat × (Nat → Int32)) (d : Nat) (x2 : Int32) (x3 : Int32) (x4 : Int32) (x5 : Int32) (x6 : Int32) (s0 : Int32) (s1 : Int32) (σ : aH) : Lq G d M_275 (114, [some (.ref 0), none, some (.int x2), some (.int x3), some (.int x4), some (.int x5), some (.int x6), none], [.int s0, .int s1], σ) = if s0 ≤ s1 then Lq G d M_275 (156, [some (.ref 0), none, some (.int x2), some (.int x3), some (.int x4), some (.int x5), some (.int x6), none], [], σ) else Lq G d M_275 (117, [some (.ref 0), none, some (.int x2), some (.int x3), some (.int x4), some (.int x5), some (.int x6), none], [], σ) :=
  (aUn_eq (tkd G.1 G.2) tmi (aRun (tkd G.1 G.2) tmi tmt d) M_275 [] 1 (114, [some (.ref 0), none, some (.int x2), some (.int x3), some (.int x4), some (.int x5), some (.int x6), none], [.int s0, .int s1], σ)).trans rfl
set_option maxRecDepth 20000 in
theorem q_275_3129 (G : Nat × (Nat → Int32)) (d : Nat) (x2 : Int32) (x3 : Int32) (x4 : Int32) (x5 : Int32) (x6 : Int32) (σ : aH) : Lq G d M_275 (156, [some (.ref 0), none, some (.int x2), some (.int x3), some (.int x4), some (.int x5), some (.int x6), none], [], σ) = Lq G d M_275 (99, [some (.ref 0), none, some (.int x2), some (.int x3), some (.int x4), some (.int (x5 + (1 : Int32))), none, none], [], σ) :=
  (aUn_eq (tkd G.1 G.2) tmi (aRun (tkd G.1 G.2) tmi tmt d) M_275 [] 2 (156, [some (.ref 0), none, some (.int x2), some (.int x3), some (.int x4), some (.int x5), some (.int x6), none], [], σ)).trans rfl
set_option maxRecDepth 20000 in
theorem q_275_3130 (G : Nat × (Nat → Int32)) (d : Nat) (x2 : Int32) (x3 : Int32) (x4 : Int32) (x5 : Int32) (x6 : Int32) (σ : aH) : Lq G d M_275 (117, [some (.ref 0), none, some (.int x2), some (.int x3), some (.int x4), some (.int x5), some (.int x6), none], [], σ) = Lq G d M_275 (123, [some (.ref 0), none, some (.int x2), some (.int x3), some (.int x4), some (.int x5), some (.int x6), none], [.int x3, .int x6, .int x5, .ref 0], σ) :=
  (aUn_eq (tkd G.1 G.2) tmi (aRun (tkd G.1 G.2) tmi tmt d) M_275 [] 4 (117, [some (.ref 0), none, some (.int x2), some (.int x3), some (.int x4), some (.int x5), some (.int x6), none], [], σ)).trans rfl
set_option maxRecDepth 20000 in
theorem q_275_3131 (G : Nat × (Nat → Int32)) (d : Nat) (x2 : Int32) (x3 : Int32) (x4 : Int32) (x5 : Int32) (x6 : Int32) (s0 : Int32) (s1 : Int32) (s2 : Int32) (σ : aH) : Lq G d M_275 (123, [some (.ref 0), none, some (.int x2), some (.int x3), some (.int x4), some (.int x5), some (.int x6), none], [.int s0, .int s1, .int s2, .ref 0], σ) = aCI (Rn G d 276 [.ref 0, .int s2, .int s1, .int s0] σ) fun v2 σ1 => Lq G d M_275 (126, [some (.ref 0), none, some (.int x2), some (.int x3), some (.int x4), some (.int x5), some (.int x6), none], [.int v2], σ1) :=
  (aUn_eq (tkd G.1 G.2) tmi (aRun (tkd G.1 G.2) tmi tmt d) M_275 [] 1 (123, [some (.ref 0), none, some (.int x2), some (.int x3), some (.int x4), some (.int x5), some (.int x6), none], [.int s0, .int s1, .int s2, .ref 0], σ)).trans rfl
set_option maxRecDepth 20000 in
theorem q_275_3132 (G : Nat × (Nat → Int32)) (d : Nat) (x2 : Int32) (x3 : Int32) (x4 : Int32) (x5 : Int32) (x6 : Int32) (s0 : Int32) (σ : aH) : Lq G d M_275 (126, [some (.ref 0), none, some (.int x2), some (.int x3), some (.int x4), some (.int x5), some (.int x6), none], [.int s0], σ) = Lq G d M_275 (131, [some (.ref 0), none, some (.int x2), some (.int x3), some (.int x4), some (.int x5), some (.int x6), some (.int s0)], [.int (-1 : Int32), .int x4], σ) :=
  (aUn_eq (tkd G.1 G.2) tmi (aRun (tkd G.1 G.2) tmi tmt d) M_275 [] 3 (126, [some (.ref 0), none, some (.int x2), some (.int x3), some (.int x4), some (.int x5), some (.int x6), none], [.int s0], σ)).trans rfl
set_option maxRecDepth 20000 in
theorem q_275_3133 (G : Nat × (Nat → Int32)) (d : Nat) (x2 : Int32) (x3 : Int32) (x4 : Int32) (x5 : Int32) (x6 : Int32) (x7 : Int32) (s0 : Int32) (s1 : Int32) (σ : aH) : Lq G d M_275 (131, [some (.ref 0), none, some (.int x2), some (.int x3), some (.int x4), some (.int x5), some (.int x6), some (.int x7)], [.int s0, .int s1], σ) = if s1 = s0 then Lq G d M_275 (141, [some (.ref 0), none, some (.int x2), some (.int x3), some (.int x4), some (.int x5), some (.int x6), some (.int x7)], [], σ) else Lq G d M_275 (134, [some (.ref 0), none, some (.int x2), some (.int x3), some (.int x4), some (.int x5), some (.int x6), some (.int x7)], [], σ) :=
  (aUn_eq (tkd G.1 G.2) tmi (aRun (tkd G.1 G.2) tmi tmt d) M_275 [] 1 (131, [some (.ref 0), none, some (.int x2), some (.int x3), some (.int x4), some (.int x5), some (.int x6), some (.int x7)], [.int s0, .int s1], σ)).trans rfl
set_option maxRecDepth 20000 in
theorem q_275_3134 (G : Nat × (Nat → Int32)) (d : Nat) (x2 : Int32) (x3 : Int32) (x4 : Int32) (x5 : Int32) (x6 : Int32) (x7 : Int32) (σ : aH) : Lq G d M_275 (141, [some (.ref 0), none, some (.int x2), some (.int x3), some (.int x4), some (.int x5), some (.int x6), some (.int x7)], [], σ) = Lq G d M_275 (153, [some (.ref 0), none, some (.int x2), some (.int x3), some (.int x7), some (.int x5), some (.int (x6 + (1 : Int32))), some (.int x7)], [], σ) :=
  (aUn_eq (tkd G.1 G.2) tmi (aRun (tkd G.1 G.2) tmi tmt d) M_275 [] 4 (141, [some (.ref 0), none, some (.int x2), some (.int x3), some (.int x4), some (.int x5), some (.int x6), some (.int x7)], [], σ)).trans rfl
set_option maxRecDepth 20000 in
theorem q_275_3135 (G : Nat × (Nat → Int32)) (d : Nat) (x2 : Int32) (x3 : Int32) (x4 : Int32) (x5 : Int32) (x6 : Int32) (x7 : Int32) (σ : aH) : Lq G d M_275 (153, [some (.ref 0), none, some (.int x2), some (.int x3), some (.int x4), some (.int x5), some (.int x6), some (.int x7)], [], σ) = Lq G d M_275 (111, [some (.ref 0), none, some (.int x2), some (.int x3), some (.int x4), some (.int x5), some (.int x6), none], [], σ) :=
  (aUn_eq (tkd G.1 G.2) tmi (aRun (tkd G.1 G.2) tmi tmt d) M_275 [] 1 (153, [some (.ref 0), none, some (.int x2), some (.int x3), some (.int x4), some (.int x5), some (.int x6), some (.int x7)], [], σ)).trans rfl
set_option maxRecDepth 20000 in
theorem q_275_3136 (G : Nat × (Nat → Int32)) (d : Nat) (x2 : Int32) (x3 : Int32) (x4 : Int32) (x5 : Int32) (x6 : Int32) (x7 : Int32) (σ : aH) : Lq G d M_275 (134, [some (.ref 0), none, some (.int x2), some (.int x3), some (.int x4), some (.int x5), some (.int x6), some (.int x7)], [], σ) = Lq G d M_275 (138, [some (.ref 0), none, some (.int x2), some (.int x3), some (.int x4), some (.int x5), some (.int x6), some (.int x7)], [.int x4, .int x7], σ) :=
  (aUn_eq (tkd G.1 G.2) tmi (aRun (tkd G.1 G.2) tmi tmt d) M_275 [] 2 (134, [some (.ref 0), none, some (.int x2), some (.int x3), some (.int x4), some (.int x5), some (.int x6), some (.int x7)], [], σ)).trans rfl
set_option maxRecDepth 20000 in
theorem q_275_3137 (G : Nat × (Nat → Int32)) (d : Nat) (x2 : Int32) (x3 : Int32) (x4 : Int32) (x5 : Int32) (x6 : Int32) (x7 : Int32) (s0 : Int32) (s1 : Int32) (σ : aH) : Lq G d M_275 (138, [some (.ref 0), none, some (.int x2), some (.int x3), some (.int x4), some (.int x5), some (.int x6), some (.int x7)], [.int s0, .int s1], σ) = if s0 ≤ s1 then Lq G d M_275 (146, [some (.ref 0), none, some (.int x2), some (.int x3), some (.int x4), some (.int x5), some (.int x6), some (.int x7)], [], σ) else Lq G d M_275 (141, [some (.ref 0), none, some (.int x2), some (.int x3), some (.int x4), some (.int x5), some (.int x6), some (.int x7)], [], σ) :=
  (aUn_eq (tkd G.1 G.2) tmi (aRun (tkd G.1 G.2) tmi tmt d) M_275 [] 1 (138, [some (.ref 0), none, some (.int x2), some (.int x3), some (.int x4), some (.int x5), some (.int x6), some (.int x7)], [.int s0, .int s1], σ)).trans rfl
set_option maxRecDepth 20000 in
theorem q_275_3138 (G : Nat × (Nat → Int32)) (d : Nat) (x2 : Int32) (x3 : Int32) (x4 : Int32) (x5 : Int32) (x6 : Int32) (x7 : Int32) (σ : aH) : Lq G d M_275 (146, [some (.ref 0), none, some (.int x2), some (.int x3), some (.int x4), some (.int x5), some (.int x6), some (.int x7)], [], σ) = Lq G d M_275 (153, [some (.ref 0), none, some (.int x2), some (.int x3), some (.int x4), some (.int x5), some (.int (x6 + (1 : Int32))), some (.int x7)], [], σ) :=
  (aUn_eq (tkd G.1 G.2) tmi (aRun (tkd G.1 G.2) tmi tmt d) M_275 [] 3 (146, [some (.ref 0), none, some (.int x2), some (.int x3), some (.int x4), some (.int x5), some (.int x6), some (.int x7)], [], σ)).trans rfl
set_option maxRecDepth 20000 in
theorem q_278_3139 (G : Nat × (Nat → Int32)) (d : Nat) (x1 : Int32) (σ : aH) : Lq G d M_278 (0, [some (.ref 33), some (.int x1), none, none, none, none, none], [], σ) = Lq G d M_278 (4, [some (.ref 33), some (.int x1), some (.int (-1 : Int32)), some (.int (0 : Int32)), none, none, none], [], σ) :=
  (aUn_eq (tkd G.1 G.2) tmi (aRun (tkd G.1 G.2) tmi tmt d) M_278 [] 4 (0, [some (.ref 33), some (.int x1), none, none, none, none, none], [], σ)).trans rfl
set_option maxRecDepth 20000 in
theorem q_278_3140 (G : Nat × (Nat → Int32)) (d : Nat) (x1 : Int32) (x2 : Int32) (x3 : Int32) (σ : aH) : Lq G d M_278 (4, [some (.ref 33), some (.int x1), some (.int x2), some (.int x3), none, none, none], [], σ) = Lq G d M_278 (9, [some (.ref 33), some (.int x1), some (.int x2), some (.int x3), none, none, none], [.int (σ.1 33 3), .int x3], σ) :=
  (aUn_eq (tkd G.1 G.2) tmi (aRun (tkd G.1 G.2) tmi tmt d) M_278 [] 3 (4, [some (.ref 33), some (.int x1), some (.int x2), some (.int x3), none, none, none], [], σ)).trans rfl
set_option maxRecDepth 20000 in
theorem q_278_3141 (G : Nat × (Nat → Int32)) (d : Nat) (x1 : Int32) (x2 : Int32) (x3 : Int32) (s0 : Int32) (s1 : Int32) (σ : aH) : Lq G d M_278 (9, [some (.ref 33), some (.int x1), some (.int x2), some (.int x3), none, none, none], [.int s0, .int s1], σ) = if s0 ≤ s1 then Lq G d M_278 (98, [some (.ref 33), some (.int x1), some (.int x2), some (.int x3), none, none, none], [], σ) else Lq G d M_278 (12, [some (.ref 33), some (.int x1), some (.int x2), some (.int x3), none, none, none], [], σ) :=
  (aUn_eq (tkd G.1 G.2) tmi (aRun (tkd G.1 G.2) tmi tmt d) M_278 [] 1 (9, [some (.ref 33), some (.int x1), some (.int x2), some (.int x3), none, none, none], [.int s0, .int s1], σ)).trans rfl
set_option maxRecDepth 20000 in
theorem q_278_3142 (G : Nat × (Nat → Int32)) (d : Nat) (x1 : Int32) (x2 : Int32) (x3 : Int32) (σ : aH) : Lq G d M_278 (98, [some (.ref 33), some (.int x1), some (.int x2), some (.int x3), none, none, none], [], σ) = Lq G d M_278 (100, [some (.ref 33), some (.int x1), some (.int x2), some (.int x3), none, none, none], [.int (-1 : Int32), .int x2], σ) :=
  (aUn_eq (tkd G.1 G.2) tmi (aRun (tkd G.1 G.2) tmi tmt d) M_278 [] 2 (98, [some (.ref 33), some (.int x1), some (.int x2), some (.int x3), none, none, none], [], σ)).trans rfl
set_option maxRecDepth 20000 in
theorem q_278_3143 (G : Nat × (Nat → Int32)) (d : Nat) (x1 : Int32) (x2 : Int32) (x3 : Int32) (s0 : Int32) (s1 : Int32) (σ : aH) : Lq G d M_278 (100, [some (.ref 33), some (.int x1), some (.int x2), some (.int x3), none, none, none], [.int s0, .int s1], σ) = if s1 = s0 then Lq G d M_278 (103, [some (.ref 33), some (.int x1), some (.int x2), some (.int x3), none, none, none], [], σ) else Lq G d M_278 (107, [some (.ref 33), some (.int x1), some (.int x2), some (.int x3), none, none, none], [], σ) :=
  (aUn_eq (tkd G.1 G.2) tmi (aRun (tkd G.1 G.2) tmi tmt d) M_278 [] 1 (100, [some (.ref 33), some (.int x1), some (.int x2), some (.int x3), none, none, none], [.int s0, .int s1], σ)).trans rfl
set_option maxRecDepth 20000 in
theorem q_278_3144 (G : Nat × (Nat → Int32)) (d : Nat) (x1 : Int32) (x2 : Int32) (x3 : Int32) (σ : aH) : Lq G d M_278 (103, [some (.ref 33), some (.int x1), some (.int x2), some (.int x3), none, none, none], [], σ) = Lq G d M_278 (108, [some (.ref 33), some (.int x1), some (.int x2), some (.int x3), none, none, none], [.int (0 : Int32)], σ) :=
  (aUn_eq (tkd G.1 G.2) tmi (aRun (tkd G.1 G.2) tmi tmt d) M_278 [] 2 (103, [some (.ref 33), some (.int x1), some (.int x2), some (.int x3), none, none, none], [], σ)).trans rfl
set_option maxRecDepth 20000 in
theorem q_278_3145 (G : Nat × (Nat → Int32)) (d : Nat) (x1 : Int32) (x2 : Int32) (x3 : Int32) (s0 : Int32) (σ : aH) : Lq G d M_278 (108, [some (.ref 33), some (.int x1), some (.int x2), some (.int x3), none, none, none], [.int s0], σ) = some (.inl (some (.int s0)), σ) :=
  (aUn_eq (tkd G.1 G.2) tmi (aRun (tkd G.1 G.2) tmi tmt d) M_278 [] 1 (108, [some (.ref 33), some (.int x1), some (.int x2), some (.int x3), none, none, none], [.int s0], σ)).trans rfl
set_option maxRecDepth 20000 in
theorem q_278_3146 (G : Nat × (Nat → Int32)) (d : Nat) (x1 : Int32) (x2 : Int32) (x3 : Int32) (σ : aH) : Lq G d M_278 (107, [some (.ref 33), some (.int x1), some (.int x2), some (.int x3), none, none, none], [], σ) = Lq G d M_278 (108, [some (.ref 33), some (.int x1), some (.int x2), some (.int x3), none, none, none], [.int x2], σ) :=
  (aUn_eq (tkd G.1 G.2) tmi (aRun (tkd G.1 G.2) tmi tmt d) M_278 [] 1 (107, [some (.ref 33), some (.int x1), some (.int x2), some (.int x3), none, none, none], [], σ)).trans rfl
set_option maxRecDepth 20000 in
theorem q_278_3147 (G : Nat × (Nat → Int32)) (d : Nat) (x1 : Int32) (x2 : Int32) (x3 : Int32) (σ : aH) : Lq G d M_278 (12, [some (.ref 33), some (.int x1), some (.int x2), some (.int x3), none, none, none], [], σ) = Lq G d M_278 (15, [some (.ref 33), some (.int x1), some (.int x2), some (.int x3), some (.int (0 : Int32)), none, none], [], σ) :=
  (aUn_eq (tkd G.1 G.2) tmi (aRun (tkd G.1 G.2) tmi tmt d) M_278 [] 2 (12, [some (.ref 33), some (.int x1), some (.int x2), some (.int x3), none, none, none], [], σ)).trans rfl
set_option maxRecDepth 20000 in
theorem q_278_3148 (G : Nat × (Nat → Int32)) (d : Nat) (x1 : Int32) (x2 : Int32) (x3 : Int32) (x4 : Int32) (σ : aH) : Lq G d M_278 (15, [some (.ref 33), some (.int x1), some (.int x2), some (.int x3), some (.int x4), none, none], [], σ) = Lq G d M_278 (18, [some (.ref 33), some (.int x1), some (.int x2), some (.int x3), some (.int x4), none, none], [.int x3, .int x4], σ) :=
  (aUn_eq (tkd G.1 G.2) tmi (aRun (tkd G.1 G.2) tmi tmt d) M_278 [] 2 (15, [some (.ref 33), some (.int x1), some (.int x2), some (.int x3), some (.int x4), none, none], [], σ)).trans rfl
set_option maxRecDepth 20000 in
theorem q_278_3149 (G : Nat × (Nat → Int32)) (d : Nat) (x1 : Int32) (x2 : Int32) (x3 : Int32) (x4 : Int32) (s0 : Int32) (s1 : Int32) (σ : aH) : Lq G d M_278 (18, [some (.ref 33), some (.int x1), some (.int x2), some (.int x3), some (.int x4), none, none], [.int s0, .int s1], σ) = if s0 ≤ s1 then Lq G d M_278 (92, [some (.ref 33), some (.int x1), some (.int x2), some (.int x3), some (.int x4), none, none], [], σ) else Lq G d M_278 (21, [some (.ref 33), some (.int x1), some (.int x2), some (.int x3), some (.int x4), none, none], [], σ) :=
  (aUn_eq (tkd G.1 G.2) tmi (aRun (tkd G.1 G.2) tmi tmt d) M_278 [] 1 (18, [some (.ref 33), some (.int x1), some (.int x2), some (.int x3), some (.int x4), none, none], [.int s0, .int s1], σ)).trans rfl
set_option maxRecDepth 20000 in
theorem q_278_3150 (G : Nat × (Nat → Int32)) (d : Nat) (x1 : Int32) (x2 : Int32) (x3 : Int32) (x4 : Int32) (σ : aH) : Lq G d M_278 (92, [some (.ref 33), some (.int x1), some (.int x2), some (.int x3), some (.int x4), none, none], [], σ) = Lq G d M_278 (4, [some (.ref 33), some (.int x1), some (.int x2), some (.int (x3 + (1 : Int32))), none, none, none], [], σ) :=
  (aUn_eq (tkd G.1 G.2) tmi (aRun (tkd G.1 G.2) tmi tmt d) M_278 [] 2 (92, [some (.ref 33), some (.int x1), some (.int x2), some (.int x3), some (.int x4), none, none], [], σ)).trans rfl
set_option maxRecDepth 20000 in
theorem q_278_3151 (G : Nat × (Nat → Int32)) (d : Nat) (x1 : Int32) (x2 : Int32) (x3 : Int32) (x4 : Int32) (σ : aH) : Lq G d M_278 (21, [some (.ref 33), some (.int x1), some (.int x2), some (.int x3), some (.int x4), none, none], [], σ) = Lq G d M_278 (27, [some (.ref 33), some (.int x1), some (.int x2), some (.int x3), some (.int x4), some (.int (0 : Int32)), some (.int (0 : Int32))], [], σ) :=
  (aUn_eq (tkd G.1 G.2) tmi (aRun (tkd G.1 G.2) tmi tmt d) M_278 [] 4 (21, [some (.ref 33), some (.int x1), some (.int x2), some (.int x3), some (.int x4), none, none], [], σ)).trans rfl
set_option maxRecDepth 20000 in
theorem q_278_3152 (G : Nat × (Nat → Int32)) (d : Nat) (x1 : Int32) (x2 : Int32) (x3 : Int32) (x4 : Int32) (x5 : Int32) (x6 : Int32) (σ : aH) : Lq G d M_278 (27, [some (.ref 33), some (.int x1), some (.int x2), some (.int x3), some (.int x4), some (.int x5), some (.int x6)], [], σ) = Lq G d M_278 (33, [some (.ref 33), some (.int x1), some (.int x2), some (.int x3), some (.int x4), some (.int x5), some (.int x6)], [.int (σ.1 33 1), .int x6], σ) :=
  (aUn_eq (tkd G.1 G.2) tmi (aRun (tkd G.1 G.2) tmi tmt d) M_278 [] 3 (27, [some (.ref 33), some (.int x1), some (.int x2), some (.int x3), some (.int x4), some (.int x5), some (.int x6)], [], σ)).trans rfl
set_option maxRecDepth 20000 in
theorem q_278_3153 (G : Nat × (Nat → Int32)) (d : Nat) (x1 : Int32) (x2 : Int32) (x3 : Int32) (x4 : Int32) (x5 : Int32) (x6 : Int32) (s0 : Int32) (s1 : Int32) (σ : aH) : Lq G d M_278 (33, [some (.ref 33), some (.int x1), some (.int x2), some (.int x3), some (.int x4), some (.int x5), some (.int x6)], [.int s0, .int s1], σ) = if s0 ≤ s1 then Lq G d M_278 (68, [some (.ref 33), some (.int x1), some (.int x2), some (.int x3), some (.int x4), some (.int x5), some (.int x6)], [], σ) else Lq G d M_278 (36, [some (.ref 33), some (.int x1), some (.int x2), some (.int x3), some (.int x4), some (.int x5), some (.int x6)], [], σ) :=
  (aUn_eq (tkd G.1 G.2) tmi (aRun (tkd G.1 G.2) tmi tmt d) M_278 [] 1 (33, [some (.ref 33), some (.int x1), some (.int x2), some (.int x3), some (.int x4), some (.int x5), some (.int x6)], [.int s0, .int s1], σ)).trans rfl
set_option maxRecDepth 20000 in
theorem q_278_3154 (G : Nat × (Nat → Int32)) (d : Nat) (x1 : Int32) (x2 : Int32) (x3 : Int32) (x4 : Int32) (x5 : Int32) (x6 : Int32) (σ : aH) : Lq G d M_278 (68, [some (.ref 33), some (.int x1), some (.int x2), some (.int x3), some (.int x4), some (.int x5), some (.int x6)], [], σ) = Lq G d M_278 (70, [some (.ref 33), some (.int x1), some (.int x2), some (.int x3), some (.int x4), some (.int x5), some (.int x6)], [.int (-1 : Int32), .int x2], σ) :=
  (aUn_eq (tkd G.1 G.2) tmi (aRun (tkd G.1 G.2) tmi tmt d) M_278 [] 2 (68, [some (.ref 33), some (.int x1), some (.int x2), some (.int x3), some (.int x4), some (.int x5), some (.int x6)], [], σ)).trans rfl
set_option maxRecDepth 20000 in
theorem q_278_3155 (G : Nat × (Nat → Int32)) (d : Nat) (x1 : Int32) (x2 : Int32) (x3 : Int32) (x4 : Int32) (x5 : Int32) (x6 : Int32) (s0 : Int32) (s1 : Int32) (σ : aH) : Lq G d M_278 (70, [some (.ref 33), some (.int x1), some (.int x2), some (.int x3), some (.int x4), some (.int x5), some (.int x6)], [.int s0, .int s1], σ) = if s1 = s0 then Lq G d M_278 (79, [some (.ref 33), some (.int x1), some (.int x2), some (.int x3), some (.int x4), some (.int x5), some (.int x6)], [], σ) else Lq G d M_278 (73, [some (.ref 33), some (.int x1), some (.int x2), some (.int x3), some (.int x4), some (.int x5), some (.int x6)], [], σ) :=
  (aUn_eq (tkd G.1 G.2) tmi (aRun (tkd G.1 G.2) tmi tmt d) M_278 [] 1 (70, [some (.ref 33), some (.int x1), some (.int x2), some (.int x3), some (.int x4), some (.int x5), some (.int x6)], [.int s0, .int s1], σ)).trans rfl
set_option maxRecDepth 20000 in
theorem q_278_3156 (G : Nat × (Nat → Int32)) (d : Nat) (x1 : Int32) (x2 : Int32) (x3 : Int32) (x4 : Int32) (x5 : Int32) (x6 : Int32) (σ : aH) : Lq G d M_278 (79, [some (.ref 33), some (.int x1), some (.int x2), some (.int x3), some (.int x4), some (.int x5), some (.int x6)], [], σ) = Lq G d M_278 (89, [some (.ref 33), some (.int x1), some (.int x5), some (.int x3), some (.int (x4 + (1 : Int32))), some (.int x5), some (.int x6)], [], σ) :=
  (aUn_eq (tkd G.1 G.2) tmi (aRun (tkd G.1 G.2) tmi tmt d) M_278 [] 4 (79, [some (.ref 33), some (.int x1), some (.int x2), some (.int x3), some (.int x4), some (.int x5), some (.int x6)], [], σ)).trans rfl
set_option maxRecDepth 20000 in
theorem q_278_3157 (G : Nat × (Nat → Int32)) (d : Nat) (x1 : Int32) (x2 : Int32) (x3 : Int32) (x4 : Int32) (x5 : Int32) (x6 : Int32) (σ : aH) : Lq G d M_278 (89, [some (.ref 33), some (.int x1), some (.int x2), some (.int x3), some (.int x4), some (.int x5), some (.int x6)], [], σ) = Lq G d M_278 (15, [some (.ref 33), some (.int x1), some (.int x2), some (.int x3), some (.int x4), none, none], [], σ) :=
  (aUn_eq (tkd G.1 G.2) tmi (aRun (tkd G.1 G.2) tmi tmt d) M_278 [] 1 (89, [some (.ref 33), some (.int x1), some (.int x2), some (.int x3), some (.int x4), some (.int x5), some (.int x6)], [], σ)).trans rfl
set_option maxRecDepth 20000 in
theorem q_278_3158 (G : Nat × (Nat → Int32)) (d : Nat) (x1 : Int32) (x2 : Int32) (x3 : Int32) (x4 : Int32) (x5 : Int32) (x6 : Int32) (σ : aH) : Lq G d M_278 (73, [some (.ref 33), some (.int x1), some (.int x2), some (.int x3), some (.int x4), some (.int x5), some (.int x6)], [], σ) = Lq G d M_278 (76, [some (.ref 33), some (.int x1), some (.int x2), some (.int x3), some (.int x4), some (.int x5), some (.int x6)], [.int x2, .int x5], σ) :=
  (aUn_eq (tkd G.1 G.2) tmi (aRun (tkd G.1 G.2) tmi tmt d) M_278 [] 2 (73, [some (.ref 33), some (.int x1), some (.int x2), some (.int x3), some (.int x4), some (.int x5), some (.int x6)], [], σ)).trans rfl
set_option maxRecDepth 20000 in
theorem q_278_3159 (G : Nat × (Nat → Int32)) (d : Nat) (x1 : Int32) (x2 : Int32) (x3 : Int32) (x4 : Int32) (x5 : Int32) (x6 : Int32) (s0 : Int32) (s1 : Int32) (σ : aH) : Lq G d M_278 (76, [some (.ref 33), some (.int x1), some (.int x2), some (.int x3), some (.int x4), some (.int x5), some (.int x6)], [.int s0, .int s1], σ) = if s0 ≤ s1 then Lq G d M_278 (84, [some (.ref 33), some (.int x1), some (.int x2), some (.int x3), some (.int x4), some (.int x5), some (.int x6)], [], σ) else Lq G d M_278 (79, [some (.ref 33), some (.int x1), some (.int x2), some (.int x3), some (.int x4), some (.int x5), some (.int x6)], [], σ) :=
  (aUn_eq (tkd G.1 G.2) tmi (aRun (tkd G.1 G.2) tmi tmt d) M_278 [] 1 (76, [some (.ref 33), some (.int x1), some (.int x2), some (.int x3), some (.int x4), some (.int x5), some (.int x6)], [.int s0, .int s1], σ)).trans rfl
set_option maxRecDepth 20000 in
theorem q_278_3160 (G : Nat × (Nat → Int32)) (d : Nat) (x1 : Int32) (x2 : Int32) (x3 : Int32) (x4 : Int32) (x5 : Int32) (x6 : Int32) (σ : aH) : Lq G d M_278 (84, [some (.ref 33), some (.int x1), some (.int x2), some (.int x3), some (.int x4), some (.int x5), some (.int x6)], [], σ) = Lq G d M_278 (89, [some (.ref 33), some (.int x1), some (.int x2), some (.int x3), some (.int (x4 + (1 : Int32))), some (.int x5), some (.int x6)], [], σ) :=
  (aUn_eq (tkd G.1 G.2) tmi (aRun (tkd G.1 G.2) tmi tmt d) M_278 [] 3 (84, [some (.ref 33), some (.int x1), some (.int x2), some (.int x3), some (.int x4), some (.int x5), some (.int x6)], [], σ)).trans rfl
set_option maxRecDepth 20000 in
theorem q_278_3161 (G : Nat × (Nat → Int32)) (d : Nat) (x1 : Int32) (x2 : Int32) (x3 : Int32) (x4 : Int32) (x5 : Int32) (x6 : Int32) (σ : aH) : Lq G d M_278 (36, [some (.ref 33), some (.int x1), some (.int x2), some (.int x3), some (.int x4), some (.int x5), some (.int x6)], [], σ) = Lq G d M_278 (40, [some (.ref 33), some (.int x1), some (.int x2), some (.int x3), some (.int x4), some (.int x5), some (.int x6)], [.int x1, .int x6, .ref 33], σ) :=
  (aUn_eq (tkd G.1 G.2) tmi (aRun (tkd G.1 G.2) tmi tmt d) M_278 [] 3 (36, [some (.ref 33), some (.int x1), some (.int x2), some (.int x3), some (.int x4), some (.int x5), some (.int x6)], [], σ)).trans rfl
set_option maxRecDepth 20000 in
theorem q_278_3162 (G : Nat × (Nat → Int32)) (d : Nat) (x1 : Int32) (x2 : Int32) (x3 : Int32) (x4 : Int32) (x5 : Int32) (x6 : Int32) (s0 : Int32) (s1 : Int32) (σ : aH) : Lq G d M_278 (40, [some (.ref 33), some (.int x1), some (.int x2), some (.int x3), some (.int x4), some (.int x5), some (.int x6)], [.int s0, .int s1, .ref 33], σ) = aCV (Rn G d 168 [.ref 33, .int s1, .int s0] σ) fun σ1 => Lq G d M_278 (43, [some (.ref 33), some (.int x1), some (.int x2), some (.int x3), some (.int x4), some (.int x5), some (.int x6)], [], σ1) :=
  (aUn_eq (tkd G.1 G.2) tmi (aRun (tkd G.1 G.2) tmi tmt d) M_278 [] 1 (40, [some (.ref 33), some (.int x1), some (.int x2), some (.int x3), some (.int x4), some (.int x5), some (.int x6)], [.int s0, .int s1, .ref 33], σ)).trans rfl
set_option maxRecDepth 20000 in
theorem q_278_3163 (G : Nat × (Nat → Int32)) (d : Nat) (x1 : Int32) (x2 : Int32) (x3 : Int32) (x4 : Int32) (x5 : Int32) (x6 : Int32) (σ : aH) : Lq G d M_278 (43, [some (.ref 33), some (.int x1), some (.int x2), some (.int x3), some (.int x4), some (.int x5), some (.int x6)], [], σ) = Lq G d M_278 (47, [some (.ref 33), some (.int x1), some (.int x2), some (.int x3), some (.int x4), some (.int x5), some (.int x6)], [.int x3, .ref 33, .int x5], σ) :=
  (aUn_eq (tkd G.1 G.2) tmi (aRun (tkd G.1 G.2) tmi tmt d) M_278 [] 3 (43, [some (.ref 33), some (.int x1), some (.int x2), some (.int x3), some (.int x4), some (.int x5), some (.int x6)], [], σ)).trans rfl
set_option maxRecDepth 20000 in
theorem q_278_3164 (G : Nat × (Nat → Int32)) (d : Nat) (x1 : Int32) (x2 : Int32) (x3 : Int32) (x4 : Int32) (x5 : Int32) (x6 : Int32) (s0 : Int32) (s2 : Int32) (σ : aH) : Lq G d M_278 (47, [some (.ref 33), some (.int x1), some (.int x2), some (.int x3), some (.int x4), some (.int x5), some (.int x6)], [.int s0, .ref 33, .int s2], σ) = aCI (Rn G d 180 [.ref 33, .int s0] σ) fun v2 σ1 => Lq G d M_278 (50, [some (.ref 33), some (.int x1), some (.int x2), some (.int x3), some (.int x4), some (.int x5), some (.int x6)], [.int v2, .int s2], σ1) :=
  (aUn_eq (tkd G.1 G.2) tmi (aRun (tkd G.1 G.2) tmi tmt d) M_278 [] 1 (47, [some (.ref 33), some (.int x1), some (.int x2), some (.int x3), some (.int x4), some (.int x5), some (.int x6)], [.int s0, .ref 33, .int s2], σ)).trans rfl
set_option maxRecDepth 20000 in
theorem q_278_3165 (G : Nat × (Nat → Int32)) (d : Nat) (x1 : Int32) (x2 : Int32) (x3 : Int32) (x4 : Int32) (x5 : Int32) (x6 : Int32) (s0 : Int32) (s1 : Int32) (σ : aH) : Lq G d M_278 (50, [some (.ref 33), some (.int x1), some (.int x2), some (.int x3), some (.int x4), some (.int x5), some (.int x6)], [.int s0, .int s1], σ) = Lq G d M_278 (53, [some (.ref 33), some (.int x1), some (.int x2), some (.int x3), some (.int x4), some (.int x5), some (.int x6)], [.int x4, .ref 33, .int s0, .int s1], σ) :=
  (aUn_eq (tkd G.1 G.2) tmi (aRun (tkd G.1 G.2) tmi tmt d) M_278 [] 2 (50, [some (.ref 33), some (.int x1), some (.int x2), some (.int x3), some (.int x4), some (.int x5), some (.int x6)], [.int s0, .int s1], σ)).trans rfl
set_option maxRecDepth 20000 in
theorem q_278_3166 (G : Nat × (Nat → Int32)) (d : Nat) (x1 : Int32) (x2 : Int32) (x3 : Int32) (x4 : Int32) (x5 : Int32) (x6 : Int32) (s0 : Int32) (s2 : Int32) (s3 : Int32) (σ : aH) : Lq G d M_278 (53, [some (.ref 33), some (.int x1), some (.int x2), some (.int x3), some (.int x4), some (.int x5), some (.int x6)], [.int s0, .ref 33, .int s2, .int s3], σ) = aCI (Rn G d 180 [.ref 33, .int s0] σ) fun v2 σ1 => Lq G d M_278 (56, [some (.ref 33), some (.int x1), some (.int x2), some (.int x3), some (.int x4), some (.int x5), some (.int x6)], [.int v2, .int s2, .int s3], σ1) :=
  (aUn_eq (tkd G.1 G.2) tmi (aRun (tkd G.1 G.2) tmi tmt d) M_278 [] 1 (53, [some (.ref 33), some (.int x1), some (.int x2), some (.int x3), some (.int x4), some (.int x5), some (.int x6)], [.int s0, .ref 33, .int s2, .int s3], σ)).trans rfl
set_option maxRecDepth 20000 in
theorem q_278_3167 (G : Nat × (Nat → Int32)) (d : Nat) (x1 : Int32) (x2 : Int32) (x3 : Int32) (x4 : Int32) (x5 : Int32) (x6 : Int32) (s0 : Int32) (s1 : Int32) (s2 : Int32) (σ : aH) : Lq G d M_278 (56, [some (.ref 33), some (.int x1), some (.int x2), some (.int x3), some (.int x4), some (.int x5), some (.int x6)], [.int s0, .int s1, .int s2], σ) = aCI (Rn G d 240 [.int s1, .int s0] σ) fun v2 σ1 => Lq G d M_278 (59, [some (.ref 33), some (.int x1), some (.int x2), some (.int x3), some (.int x4), some (.int x5), some (.int x6)], [.int v2, .int s2], σ1) :=
  (aUn_eq (tkd G.1 G.2) tmi (aRun (tkd G.1 G.2) tmi tmt d) M_278 [] 1 (56, [some (.ref 33), some (.int x1), some (.int x2), some (.int x3), some (.int x4), some (.int x5), some (.int x6)], [.int s0, .int s1, .int s2], σ)).trans rfl
set_option maxRecDepth 20000 in
theorem q_278_3168 (G : Nat × (Nat → Int32)) (d : Nat) (x1 : Int32) (x2 : Int32) (x3 : Int32) (x4 : Int32) (x5 : Int32) (x6 : Int32) (s0 : Int32) (s1 : Int32) (σ : aH) : Lq G d M_278 (59, [some (.ref 33), some (.int x1), some (.int x2), some (.int x3), some (.int x4), some (.int x5), some (.int x6)], [.int s0, .int s1], σ) = Lq G d M_278 (65, [some (.ref 33), some (.int x1), some (.int x2), some (.int x3), some (.int x4), some (.int (s1 + s0)), some (.int (x6 + (1 : Int32)))], [], σ) :=
  (aUn_eq (tkd G.1 G.2) tmi (aRun (tkd G.1 G.2) tmi tmt d) M_278 [] 3 (59, [some (.ref 33), some (.int x1), some (.int x2), some (.int x3), some (.int x4), some (.int x5), some (.int x6)], [.int s0, .int s1], σ)).trans rfl
set_option maxRecDepth 20000 in
theorem q_278_3169 (G : Nat × (Nat → Int32)) (d : Nat) (x1 : Int32) (x2 : Int32) (x3 : Int32) (x4 : Int32) (x5 : Int32) (x6 : Int32) (σ : aH) : Lq G d M_278 (65, [some (.ref 33), some (.int x1), some (.int x2), some (.int x3), some (.int x4), some (.int x5), some (.int x6)], [], σ) = Lq G d M_278 (27, [some (.ref 33), some (.int x1), some (.int x2), some (.int x3), some (.int x4), some (.int x5), some (.int x6)], [], σ) :=
  (aUn_eq (tkd G.1 G.2) tmi (aRun (tkd G.1 G.2) tmi tmt d) M_278 [] 1 (65, [some (.ref 33), some (.int x1), some (.int x2), some (.int x3), some (.int x4), some (.int x5), some (.int x6)], [], σ)).trans rfl
set_option maxRecDepth 20000 in
theorem q_159_3170 (G : Nat × (Nat → Int32)) (d : Nat) (x2 : Int32) (σ : aH) : Lq G d M_159 (0, [some (.ref 24), some (.ref 3), some (.int x2)], [], σ) = Lq G d M_159 (5, [some (.ref 24), some (.ref 3), some (.int x2)], [.int (0 : Int32), .int x2, .int (2 : Int32), .ref 3, .ref 24], σ) :=
  (aUn_eq (tkd G.1 G.2) tmi (aRun (tkd G.1 G.2) tmi tmt d) M_159 [] 5 (0, [some (.ref 24), some (.ref 3), some (.int x2)], [], σ)).trans rfl
set_option maxRecDepth 20000 in
theorem q_159_3171 (G : Nat × (Nat → Int32)) (d : Nat) (x2 : Int32) (s0 : Int32) (s1 : Int32) (s2 : Int32) (σ : aH) : Lq G d M_159 (5, [some (.ref 24), some (.ref 3), some (.int x2)], [.int s0, .int s1, .int s2, .ref 3, .ref 24], σ) = aCI (Rn G d 119 [.ref 3, .int s2, .int s1, .int s0] σ) fun v2 σ1 => Lq G d M_159 (8, [some (.ref 24), some (.ref 3), some (.int x2)], [.int v2, .ref 24], σ1) :=
  (aUn_eq (tkd G.1 G.2) tmi (aRun (tkd G.1 G.2) tmi tmt d) M_159 [] 1 (5, [some (.ref 24), some (.ref 3), some (.int x2)], [.int s0, .int s1, .int s2, .ref 3, .ref 24], σ)).trans rfl
set_option maxRecDepth 20000 in
theorem q_159_3172 (G : Nat × (Nat → Int32)) (d : Nat) (x2 : Int32) (s0 : Int32) (σ : aH) : Lq G d M_159 (8, [some (.ref 24), some (.ref 3), some (.int x2)], [.int s0, .ref 24], σ) = Lq G d M_159 (16, [some (.ref 24), some (.ref 3), some (.int x2)], [.int (1 : Int32), .int x2, .int (2 : Int32), .ref 3, .ref 24], (aSI σ 24 12 s0)) :=
  (aUn_eq (tkd G.1 G.2) tmi (aRun (tkd G.1 G.2) tmi tmt d) M_159 [] 6 (8, [some (.ref 24), some (.ref 3), some (.int x2)], [.int s0, .ref 24], σ)).trans rfl
set_option maxRecDepth 20000 in
theorem q_159_3173 (G : Nat × (Nat → Int32)) (d : Nat) (x2 : Int32) (s0 : Int32) (s1 : Int32) (s2 : Int32) (σ : aH) : Lq G d M_159 (16, [some (.ref 24), some (.ref 3), some (.int x2)], [.int s0, .int s1, .int s2, .ref 3, .ref 24], σ) = aCI (Rn G d 119 [.ref 3, .int s2, .int s1, .int s0] σ) fun v2 σ1 => Lq G d M_159 (19, [some (.ref 24), some (.ref 3), some (.int x2)], [.int v2, .ref 24], σ1) :=
  (aUn_eq (tkd G.1 G.2) tmi (aRun (tkd G.1 G.2) tmi tmt d) M_159 [] 1 (16, [some (.ref 24), some (.ref 3), some (.int x2)], [.int s0, .int s1, .int s2, .ref 3, .ref 24], σ)).trans rfl
set_option maxRecDepth 20000 in
theorem q_159_3174 (G : Nat × (Nat → Int32)) (d : Nat) (x2 : Int32) (s0 : Int32) (σ : aH) : Lq G d M_159 (19, [some (.ref 24), some (.ref 3), some (.int x2)], [.int s0, .ref 24], σ) = Lq G d M_159 (27, [some (.ref 24), some (.ref 3), some (.int x2)], [.int (3 : Int32), .int x2, .int (2 : Int32), .ref 3, .ref 24], (aSI σ 24 13 s0)) :=
  (aUn_eq (tkd G.1 G.2) tmi (aRun (tkd G.1 G.2) tmi tmt d) M_159 [] 6 (19, [some (.ref 24), some (.ref 3), some (.int x2)], [.int s0, .ref 24], σ)).trans rfl
set_option maxRecDepth 20000 in
theorem q_159_3175 (G : Nat × (Nat → Int32)) (d : Nat) (x2 : Int32) (s0 : Int32) (s1 : Int32) (s2 : Int32) (σ : aH) : Lq G d M_159 (27, [some (.ref 24), some (.ref 3), some (.int x2)], [.int s0, .int s1, .int s2, .ref 3, .ref 24], σ) = aCI (Rn G d 119 [.ref 3, .int s2, .int s1, .int s0] σ) fun v2 σ1 => Lq G d M_159 (30, [some (.ref 24), some (.ref 3), some (.int x2)], [.int v2, .ref 24], σ1) :=
  (aUn_eq (tkd G.1 G.2) tmi (aRun (tkd G.1 G.2) tmi tmt d) M_159 [] 1 (27, [some (.ref 24), some (.ref 3), some (.int x2)], [.int s0, .int s1, .int s2, .ref 3, .ref 24], σ)).trans rfl
set_option maxRecDepth 20000 in
theorem q_159_3176 (G : Nat × (Nat → Int32)) (d : Nat) (x2 : Int32) (s0 : Int32) (σ : aH) : Lq G d M_159 (30, [some (.ref 24), some (.ref 3), some (.int x2)], [.int s0, .ref 24], σ) = Lq G d M_159 (38, [some (.ref 24), some (.ref 3), some (.int x2)], [.int (4 : Int32), .int x2, .int (2 : Int32), .ref 3, .ref 24], (aSI σ 24 14 s0)) :=
  (aUn_eq (tkd G.1 G.2) tmi (aRun (tkd G.1 G.2) tmi tmt d) M_159 [] 6 (30, [some (.ref 24), some (.ref 3), some (.int x2)], [.int s0, .ref 24], σ)).trans rfl
set_option maxRecDepth 20000 in
theorem q_159_3177 (G : Nat × (Nat → Int32)) (d : Nat) (x2 : Int32) (s0 : Int32) (s1 : Int32) (s2 : Int32) (σ : aH) : Lq G d M_159 (38, [some (.ref 24), some (.ref 3), some (.int x2)], [.int s0, .int s1, .int s2, .ref 3, .ref 24], σ) = aCI (Rn G d 119 [.ref 3, .int s2, .int s1, .int s0] σ) fun v2 σ1 => Lq G d M_159 (41, [some (.ref 24), some (.ref 3), some (.int x2)], [.int v2, .ref 24], σ1) :=
  (aUn_eq (tkd G.1 G.2) tmi (aRun (tkd G.1 G.2) tmi tmt d) M_159 [] 1 (38, [some (.ref 24), some (.ref 3), some (.int x2)], [.int s0, .int s1, .int s2, .ref 3, .ref 24], σ)).trans rfl
set_option maxRecDepth 20000 in
theorem q_159_3178 (G : Nat × (Nat → Int32)) (d : Nat) (x2 : Int32) (s0 : Int32) (σ : aH) : Lq G d M_159 (41, [some (.ref 24), some (.ref 3), some (.int x2)], [.int s0, .ref 24], σ) = Lq G d M_159 (44, [some (.ref 24), some (.ref 3), some (.int x2)], [], (aSI σ 24 15 s0)) :=
  (aUn_eq (tkd G.1 G.2) tmi (aRun (tkd G.1 G.2) tmi tmt d) M_159 [] 1 (41, [some (.ref 24), some (.ref 3), some (.int x2)], [.int s0, .ref 24], σ)).trans rfl
set_option maxRecDepth 20000 in
theorem q_159_3179 (G : Nat × (Nat → Int32)) (d : Nat) (x2 : Int32) (σ : aH) : Lq G d M_159 (44, [some (.ref 24), some (.ref 3), some (.int x2)], [], σ) = some (.inl none, σ) :=
  (aUn_eq (tkd G.1 G.2) tmi (aRun (tkd G.1 G.2) tmi tmt d) M_159 [] 1 (44, [some (.ref 24), some (.ref 3), some (.int x2)], [], σ)).trans rfl
set_option maxRecDepth 20000 in
theorem q_160_3180 (G : Nat × (Nat → Int32)) (d : Nat) (x2 : Int32) (σ : aH) : Lq G d M_160 (0, [some (.ref 24), some (.ref 3), some (.int x2)], [], σ) = Lq G d M_160 (5, [some (.ref 24), some (.ref 3), some (.int x2)], [.int (0 : Int32), .int x2, .int (0 : Int32), .ref 3, .ref 24], σ) :=
  (aUn_eq (tkd G.1 G.2) tmi (aRun (tkd G.1 G.2) tmi tmt d) M_160 [] 5 (0, [some (.ref 24), some (.ref 3), some (.int x2)], [], σ)).trans rfl
set_option maxRecDepth 20000 in
theorem q_160_3181 (G : Nat × (Nat → Int32)) (d : Nat) (x2 : Int32) (s0 : Int32) (s1 : Int32) (s2 : Int32) (σ : aH) : Lq G d M_160 (5, [some (.ref 24), some (.ref 3), some (.int x2)], [.int s0, .int s1, .int s2, .ref 3, .ref 24], σ) = aCI (Rn G d 119 [.ref 3, .int s2, .int s1, .int s0] σ) fun v2 σ1 => Lq G d M_160 (8, [some (.ref 24), some (.ref 3), some (.int x2)], [.int v2, .ref 24], σ1) :=
  (aUn_eq (tkd G.1 G.2) tmi (aRun (tkd G.1 G.2) tmi tmt d) M_160 [] 1 (5, [some (.ref 24), some (.ref 3), some (.int x2)], [.int s0, .int s1, .int s2, .ref 3, .ref 24], σ)).trans rfl
set_option maxRecDepth 20000 in
theorem q_160_3182 (G : Nat × (Nat → Int32)) (d : Nat) (x2 : Int32) (s0 : Int32) (σ : aH) : Lq G d M_160 (8, [some (.ref 24), some (.ref 3), some (.int x2)], [.int s0, .ref 24], σ) = Lq G d M_160 (12, [some (.ref 24), some (.ref 3), some (.int x2)], [.int (1 : Int32), .int x2, .int (0 : Int32), .ref 3, .int s0, .ref 24], σ) :=
  (aUn_eq (tkd G.1 G.2) tmi (aRun (tkd G.1 G.2) tmi tmt d) M_160 [] 4 (8, [some (.ref 24), some (.ref 3), some (.int x2)], [.int s0, .ref 24], σ)).trans rfl
set_option maxRecDepth 20000 in
theorem q_160_3183 (G : Nat × (Nat → Int32)) (d : Nat) (x2 : Int32) (s0 : Int32) (s1 : Int32) (s2 : Int32) (s4 : Int32) (σ : aH) : Lq G d M_160 (12, [some (.ref 24), some (.ref 3), some (.int x2)], [.int s0, .int s1, .int s2, .ref 3, .int s4, .ref 24], σ) = aCI (Rn G d 119 [.ref 3, .int s2, .int s1, .int s0] σ) fun v2 σ1 => Lq G d M_160 (15, [some (.ref 24), some (.ref 3), some (.int x2)], [.int v2, .int s4, .ref 24], σ1) :=
  (aUn_eq (tkd G.1 G.2) tmi (aRun (tkd G.1 G.2) tmi tmt d) M_160 [] 1 (12, [some (.ref 24), some (.ref 3), some (.int x2)], [.int s0, .int s1, .int s2, .ref 3, .int s4, .ref 24], σ)).trans rfl
set_option maxRecDepth 20000 in
theorem q_160_3184 (G : Nat × (Nat → Int32)) (d : Nat) (x2 : Int32) (s0 : Int32) (s1 : Int32) (σ : aH) : Lq G d M_160 (15, [some (.ref 24), some (.ref 3), some (.int x2)], [.int s0, .int s1, .ref 24], σ) = aCV (Rn G d 161 [.ref 24, .int s1, .int s0] σ) fun σ1 => Lq G d M_160 (18, [some (.ref 24), some (.ref 3), some (.int x2)], [], σ1) :=
  (aUn_eq (tkd G.1 G.2) tmi (aRun (tkd G.1 G.2) tmi tmt d) M_160 [] 1 (15, [some (.ref 24), some (.ref 3), some (.int x2)], [.int s0, .int s1, .ref 24], σ)).trans rfl
set_option maxRecDepth 20000 in
theorem q_160_3185 (G : Nat × (Nat → Int32)) (d : Nat) (x2 : Int32) (σ : aH) : Lq G d M_160 (18, [some (.ref 24), some (.ref 3), some (.int x2)], [], σ) = Lq G d M_160 (23, [some (.ref 24), some (.ref 3), some (.int x2)], [.int (2 : Int32), .int x2, .int (0 : Int32), .ref 3, .ref 24], σ) :=
  (aUn_eq (tkd G.1 G.2) tmi (aRun (tkd G.1 G.2) tmi tmt d) M_160 [] 5 (18, [some (.ref 24), some (.ref 3), some (.int x2)], [], σ)).trans rfl
set_option maxRecDepth 20000 in
theorem q_160_3186 (G : Nat × (Nat → Int32)) (d : Nat) (x2 : Int32) (s0 : Int32) (s1 : Int32) (s2 : Int32) (σ : aH) : Lq G d M_160 (23, [some (.ref 24), some (.ref 3), some (.int x2)], [.int s0, .int s1, .int s2, .ref 3, .ref 24], σ) = aCI (Rn G d 119 [.ref 3, .int s2, .int s1, .int s0] σ) fun v2 σ1 => Lq G d M_160 (26, [some (.ref 24), some (.ref 3), some (.int x2)], [.int v2, .ref 24], σ1) :=
  (aUn_eq (tkd G.1 G.2) tmi (aRun (tkd G.1 G.2) tmi tmt d) M_160 [] 1 (23, [some (.ref 24), some (.ref 3), some (.int x2)], [.int s0, .int s1, .int s2, .ref 3, .ref 24], σ)).trans rfl
set_option maxRecDepth 20000 in
theorem q_160_3187 (G : Nat × (Nat → Int32)) (d : Nat) (x2 : Int32) (s0 : Int32) (σ : aH) : Lq G d M_160 (26, [some (.ref 24), some (.ref 3), some (.int x2)], [.int s0, .ref 24], σ) = Lq G d M_160 (34, [some (.ref 24), some (.ref 3), some (.int x2)], [.int (3 : Int32), .int x2, .int (0 : Int32), .ref 3, .ref 24], (aSI σ 24 2 s0)) :=
  (aUn_eq (tkd G.1 G.2) tmi (aRun (tkd G.1 G.2) tmi tmt d) M_160 [] 6 (26, [some (.ref 24), some (.ref 3), some (.int x2)], [.int s0, .ref 24], σ)).trans rfl
set_option maxRecDepth 20000 in
theorem q_160_3188 (G : Nat × (Nat → Int32)) (d : Nat) (x2 : Int32) (s0 : Int32) (s1 : Int32) (s2 : Int32) (σ : aH) : Lq G d M_160 (34, [some (.ref 24), some (.ref 3), some (.int x2)], [.int s0, .int s1, .int s2, .ref 3, .ref 24], σ) = aCI (Rn G d 119 [.ref 3, .int s2, .int s1, .int s0] σ) fun v2 σ1 => Lq G d M_160 (37, [some (.ref 24), some (.ref 3), some (.int x2)], [.int v2, .ref 24], σ1) :=
  (aUn_eq (tkd G.1 G.2) tmi (aRun (tkd G.1 G.2) tmi tmt d) M_160 [] 1 (34, [some (.ref 24), some (.ref 3), some (.int x2)], [.int s0, .int s1, .int s2, .ref 3, .ref 24], σ)).trans rfl
set_option maxRecDepth 20000 in
theorem q_160_3189 (G : Nat × (Nat → Int32)) (d : Nat) (x2 : Int32) (s0 : Int32) (σ : aH) : Lq G d M_160 (37, [some (.ref 24), some (.ref 3), some (.int x2)], [.int s0, .ref 24], σ) = Lq G d M_160 (45, [some (.ref 24), some (.ref 3), some (.int x2)], [.int (4 : Int32), .int x2, .int (0 : Int32), .ref 3, .ref 24], (aSI σ 24 3 s0)) :=
  (aUn_eq (tkd G.1 G.2) tmi (aRun (tkd G.1 G.2) tmi tmt d) M_160 [] 6 (37, [some (.ref 24), some (.ref 3), some (.int x2)], [.int s0, .ref 24], σ)).trans rfl
set_option maxRecDepth 20000 in
theorem q_160_3190 (G : Nat × (Nat → Int32)) (d : Nat) (x2 : Int32) (s0 : Int32) (s1 : Int32) (s2 : Int32) (σ : aH) : Lq G d M_160 (45, [some (.ref 24), some (.ref 3), some (.int x2)], [.int s0, .int s1, .int s2, .ref 3, .ref 24], σ) = aCI (Rn G d 119 [.ref 3, .int s2, .int s1, .int s0] σ) fun v2 σ1 => Lq G d M_160 (48, [some (.ref 24), some (.ref 3), some (.int x2)], [.int v2, .ref 24], σ1) :=
  (aUn_eq (tkd G.1 G.2) tmi (aRun (tkd G.1 G.2) tmi tmt d) M_160 [] 1 (45, [some (.ref 24), some (.ref 3), some (.int x2)], [.int s0, .int s1, .int s2, .ref 3, .ref 24], σ)).trans rfl
set_option maxRecDepth 20000 in
theorem q_160_3191 (G : Nat × (Nat → Int32)) (d : Nat) (x2 : Int32) (s0 : Int32) (σ : aH) : Lq G d M_160 (48, [some (.ref 24), some (.ref 3), some (.int x2)], [.int s0, .ref 24], σ) = Lq G d M_160 (56, [some (.ref 24), some (.ref 3), some (.int x2)], [.int (5 : Int32), .int x2, .int (0 : Int32), .ref 3, .ref 24], (aSI σ 24 4 s0)) :=
  (aUn_eq (tkd G.1 G.2) tmi (aRun (tkd G.1 G.2) tmi tmt d) M_160 [] 6 (48, [some (.ref 24), some (.ref 3), some (.int x2)], [.int s0, .ref 24], σ)).trans rfl
set_option maxRecDepth 20000 in
theorem q_160_3192 (G : Nat × (Nat → Int32)) (d : Nat) (x2 : Int32) (s0 : Int32) (s1 : Int32) (s2 : Int32) (σ : aH) : Lq G d M_160 (56, [some (.ref 24), some (.ref 3), some (.int x2)], [.int s0, .int s1, .int s2, .ref 3, .ref 24], σ) = aCI (Rn G d 119 [.ref 3, .int s2, .int s1, .int s0] σ) fun v2 σ1 => Lq G d M_160 (59, [some (.ref 24), some (.ref 3), some (.int x2)], [.int v2, .ref 24], σ1) :=
  (aUn_eq (tkd G.1 G.2) tmi (aRun (tkd G.1 G.2) tmi tmt d) M_160 [] 1 (56, [some (.ref 24), some (.ref 3), some (.int x2)], [.int s0, .int s1, .int s2, .ref 3, .ref 24], σ)).trans rfl
set_option maxRecDepth 20000 in
theorem q_160_3193 (G : Nat × (Nat → Int32)) (d : Nat) (x2 : Int32) (s0 : Int32) (σ : aH) : Lq G d M_160 (59, [some (.ref 24), some (.ref 3), some (.int x2)], [.int s0, .ref 24], σ) = Lq G d M_160 (62, [some (.ref 24), some (.ref 3), some (.int x2)], [], (aSI σ 24 5 s0)) :=
  (aUn_eq (tkd G.1 G.2) tmi (aRun (tkd G.1 G.2) tmi tmt d) M_160 [] 1 (59, [some (.ref 24), some (.ref 3), some (.int x2)], [.int s0, .ref 24], σ)).trans rfl
set_option maxRecDepth 20000 in
theorem q_160_3194 (G : Nat × (Nat → Int32)) (d : Nat) (x2 : Int32) (σ : aH) : Lq G d M_160 (62, [some (.ref 24), some (.ref 3), some (.int x2)], [], σ) = some (.inl none, σ) :=
  (aUn_eq (tkd G.1 G.2) tmi (aRun (tkd G.1 G.2) tmi tmt d) M_160 [] 1 (62, [some (.ref 24), some (.ref 3), some (.int x2)], [], σ)).trans rfl
set_option maxRecDepth 20000 in
theorem q_286_3195 (G : Nat × (Nat → Int32)) (d : Nat) (x1 : Int32) (x2 : Int32) (σ : aH) : Lq G d M_286 (0, [some (.ref 24), some (.int x1), some (.int x2)], [], σ) = Lq G d M_286 (20, [some (.ref 24), some (.int x1), some (.int x2)], [], (aSI (aSI (aSI (aSI σ 24 6 x1) 24 7 x2) 24 8 (0 : Int32)) 24 9 (0 : Int32))) :=
  (aUn_eq (tkd G.1 G.2) tmi (aRun (tkd G.1 G.2) tmi tmt d) M_286 [] 12 (0, [some (.ref 24), some (.int x1), some (.int x2)], [], σ)).trans rfl
set_option maxRecDepth 20000 in
theorem q_286_3196 (G : Nat × (Nat → Int32)) (d : Nat) (x1 : Int32) (x2 : Int32) (σ : aH) : Lq G d M_286 (20, [some (.ref 24), some (.int x1), some (.int x2)], [], σ) = Lq G d M_286 (32, [some (.ref 24), some (.int x1), some (.int x2)], [.ref 24], (aSI (aSI σ 24 10 (0 : Int32)) 24 11 (60 : Int32))) :=
  (aUn_eq (tkd G.1 G.2) tmi (aRun (tkd G.1 G.2) tmi tmt d) M_286 [] 7 (20, [some (.ref 24), some (.int x1), some (.int x2)], [], σ)).trans rfl
set_option maxRecDepth 20000 in
theorem q_286_3197 (G : Nat × (Nat → Int32)) (d : Nat) (x1 : Int32) (x2 : Int32) (σ : aH) : Lq G d M_286 (32, [some (.ref 24), some (.int x1), some (.int x2)], [.ref 24], σ) = aCV (Rn G d 176 [.ref 24] σ) fun σ1 => Lq G d M_286 (35, [some (.ref 24), some (.int x1), some (.int x2)], [], σ1) :=
  (aUn_eq (tkd G.1 G.2) tmi (aRun (tkd G.1 G.2) tmi tmt d) M_286 [] 1 (32, [some (.ref 24), some (.int x1), some (.int x2)], [.ref 24], σ)).trans rfl
set_option maxRecDepth 20000 in
theorem q_286_3198 (G : Nat × (Nat → Int32)) (d : Nat) (x1 : Int32) (x2 : Int32) (σ : aH) : Lq G d M_286 (35, [some (.ref 24), some (.int x1), some (.int x2)], [], σ) = Lq G d M_286 (39, [some (.ref 24), some (.int x1), some (.int x2)], [.int (σ.1 24 16)], σ) :=
  (aUn_eq (tkd G.1 G.2) tmi (aRun (tkd G.1 G.2) tmi tmt d) M_286 [] 2 (35, [some (.ref 24), some (.int x1), some (.int x2)], [], σ)).trans rfl
set_option maxRecDepth 20000 in
theorem q_286_3199 (G : Nat × (Nat → Int32)) (d : Nat) (x1 : Int32) (x2 : Int32) (s0 : Int32) (σ : aH) : Lq G d M_286 (39, [some (.ref 24), some (.int x1), some (.int x2)], [.int s0], σ) = some (.inl (some (.int s0)), σ) :=
  (aUn_eq (tkd G.1 G.2) tmi (aRun (tkd G.1 G.2) tmi tmt d) M_286 [] 1 (39, [some (.ref 24), some (.int x1), some (.int x2)], [.int s0], σ)).trans rfl
set_option maxRecDepth 20000 in
theorem q_288_3200 (G : Nat × (Nat → Int32)) (d : Nat) (x1 : Int32) (x2 : Int32) (σ : aH) : Lq G d M_288 (0, [some (.ref 33), some (.int x1), some (.int x2), none], [], σ) = Lq G d M_288 (2, [some (.ref 33), some (.int x1), some (.int x2), some (.int (0 : Int32))], [], σ) :=
  (aUn_eq (tkd G.1 G.2) tmi (aRun (tkd G.1 G.2) tmi tmt d) M_288 [] 2 (0, [some (.ref 33), some (.int x1), some (.int x2), none], [], σ)).trans rfl
set_option maxRecDepth 20000 in
theorem q_288_3201 (G : Nat × (Nat → Int32)) (d : Nat) (x1 : Int32) (x2 : Int32) (x3 : Int32) (σ : aH) : Lq G d M_288 (2, [some (.ref 33), some (.int x1), some (.int x2), some (.int x3)], [], σ) = Lq G d M_288 (5, [some (.ref 33), some (.int x1), some (.int x2), some (.int x3)], [.int (6 : Int32), .int x3], σ) :=
  (aUn_eq (tkd G.1 G.2) tmi (aRun (tkd G.1 G.2) tmi tmt d) M_288 [] 2 (2, [some (.ref 33), some (.int x1), some (.int x2), some (.int x3)], [], σ)).trans rfl
set_option maxRecDepth 20000 in
theorem q_288_3202 (G : Nat × (Nat → Int32)) (d : Nat) (x1 : Int32) (x2 : Int32) (x3 : Int32) (s0 : Int32) (s1 : Int32) (σ : aH) : Lq G d M_288 (5, [some (.ref 33), some (.int x1), some (.int x2), some (.int x3)], [.int s0, .int s1], σ) = if s0 ≤ s1 then Lq G d M_288 (21, [some (.ref 33), some (.int x1), some (.int x2), some (.int x3)], [], σ) else Lq G d M_288 (8, [some (.ref 33), some (.int x1), some (.int x2), some (.int x3)], [], σ) :=
  (aUn_eq (tkd G.1 G.2) tmi (aRun (tkd G.1 G.2) tmi tmt d) M_288 [] 1 (5, [some (.ref 33), some (.int x1), some (.int x2), some (.int x3)], [.int s0, .int s1], σ)).trans rfl
set_option maxRecDepth 20000 in
theorem q_288_3203 (G : Nat × (Nat → Int32)) (d : Nat) (x1 : Int32) (x2 : Int32) (x3 : Int32) (σ : aH) : Lq G d M_288 (21, [some (.ref 33), some (.int x1), some (.int x2), some (.int x3)], [], σ) = Lq G d M_288 (35, [some (.ref 33), some (.int x1), some (.int x2), some (.int x3)], [], (aSI (aSI σ 51 0 x1) 51 1 x2)) :=
  (aUn_eq (tkd G.1 G.2) tmi (aRun (tkd G.1 G.2) tmi tmt d) M_288 [] 10 (21, [some (.ref 33), some (.int x1), some (.int x2), some (.int x3)], [], σ)).trans rfl
set_option maxRecDepth 20000 in
theorem q_288_3204 (G : Nat × (Nat → Int32)) (d : Nat) (x1 : Int32) (x2 : Int32) (x3 : Int32) (σ : aH) : Lq G d M_288 (35, [some (.ref 33), some (.int x1), some (.int x2), some (.int x3)], [], σ) = Lq G d M_288 (43, [some (.ref 33), some (.int x1), some (.int x2), some (.int x3)], [], (aSI σ 51 5 (60 : Int32))) :=
  (aUn_eq (tkd G.1 G.2) tmi (aRun (tkd G.1 G.2) tmi tmt d) M_288 [] 5 (35, [some (.ref 33), some (.int x1), some (.int x2), some (.int x3)], [], σ)).trans rfl
set_option maxRecDepth 20000 in
theorem q_288_3205 (G : Nat × (Nat → Int32)) (d : Nat) (x1 : Int32) (x2 : Int32) (x3 : Int32) (σ : aH) : Lq G d M_288 (43, [some (.ref 33), some (.int x1), some (.int x2), some (.int x3)], [], σ) = some (.inl none, σ) :=
  (aUn_eq (tkd G.1 G.2) tmi (aRun (tkd G.1 G.2) tmi tmt d) M_288 [] 1 (43, [some (.ref 33), some (.int x1), some (.int x2), some (.int x3)], [], σ)).trans rfl
set_option maxRecDepth 20000 in
theorem q_288_3206 (G : Nat × (Nat → Int32)) (d : Nat) (x1 : Int32) (x2 : Int32) (x3 : Int32) (σ : aH) : Lq G d M_288 (8, [some (.ref 33), some (.int x1), some (.int x2), some (.int x3)], [], σ) = Lq G d M_288 (14, [some (.ref 33), some (.int x1), some (.int x2), some (.int x3)], [.int (0 : Int32), .int x3, .ref 51], σ) :=
  (aUn_eq (tkd G.1 G.2) tmi (aRun (tkd G.1 G.2) tmi tmt d) M_288 [] 4 (8, [some (.ref 33), some (.int x1), some (.int x2), some (.int x3)], [], σ)).trans rfl
set_option maxRecDepth 20000 in
theorem q_288_3207 (G : Nat × (Nat → Int32)) (d : Nat) (x1 : Int32) (x2 : Int32) (x3 : Int32) (s0 : Int32) (s1 : Int32) (σ : aH) : Lq G d M_288 (14, [some (.ref 33), some (.int x1), some (.int x2), some (.int x3)], [.int s0, .int s1, .ref 51], σ) = aIx (s1) 6 fun j1 => Lq G d M_288 (15, [some (.ref 33), some (.int x1), some (.int x2), some (.int x3)], [], (aSI σ 51 j1 s0)) :=
  (aUn_eq (tkd G.1 G.2) tmi (aRun (tkd G.1 G.2) tmi tmt d) M_288 [] 1 (14, [some (.ref 33), some (.int x1), some (.int x2), some (.int x3)], [.int s0, .int s1, .ref 51], σ)).trans rfl
set_option maxRecDepth 20000 in
theorem q_288_3208 (G : Nat × (Nat → Int32)) (d : Nat) (x1 : Int32) (x2 : Int32) (x3 : Int32) (σ : aH) : Lq G d M_288 (15, [some (.ref 33), some (.int x1), some (.int x2), some (.int x3)], [], σ) = Lq G d M_288 (2, [some (.ref 33), some (.int x1), some (.int x2), some (.int (x3 + (1 : Int32)))], [], σ) :=
  (aUn_eq (tkd G.1 G.2) tmi (aRun (tkd G.1 G.2) tmi tmt d) M_288 [] 2 (15, [some (.ref 33), some (.int x1), some (.int x2), some (.int x3)], [], σ)).trans rfl
set_option maxRecDepth 20000 in
theorem q_291_3209 (G : Nat × (Nat → Int32)) (d : Nat)  (σ : aH) : Lq G d M_291 (0, [some (.ref 0), none], [], σ) = Lq G d M_291 (2, [some (.ref 0), some (.int (0 : Int32))], [], σ) :=
  (aUn_eq (tkd G.1 G.2) tmi (aRun (tkd G.1 G.2) tmi tmt d) M_291 [] 2 (0, [some (.ref 0), none], [], σ)).trans rfl
set_option maxRecDepth 20000 in
theorem q_291_3210 (G : Nat × (Nat → Int32)) (d : Nat) (x1 : Int32) (σ : aH) : Lq G d M_291 (2, [some (.ref 0), some (.int x1)], [], σ) = Lq G d M_291 (6, [some (.ref 0), some (.int x1)], [.int (999 : Int32), .int x1], σ) :=
  (aUn_eq (tkd G.1 G.2) tmi (aRun (tkd G.1 G.2) tmi tmt d) M_291 [] 2 (2, [some (.ref 0), some (.int x1)], [], σ)).trans rfl
set_option maxRecDepth 20000 in
theorem q_291_3211 (G : Nat × (Nat → Int32)) (d : Nat) (x1 : Int32) (s0 : Int32) (s1 : Int32) (σ : aH) : Lq G d M_291 (6, [some (.ref 0), some (.int x1)], [.int s0, .int s1], σ) = if s0 < s1 then Lq G d M_291 (32, [some (.ref 0), some (.int x1)], [], σ) else Lq G d M_291 (9, [some (.ref 0), some (.int x1)], [], σ) :=
  (aUn_eq (tkd G.1 G.2) tmi (aRun (tkd G.1 G.2) tmi tmt d) M_291 [] 1 (6, [some (.ref 0), some (.int x1)], [.int s0, .int s1], σ)).trans rfl
set_option maxRecDepth 20000 in
theorem q_291_3212 (G : Nat × (Nat → Int32)) (d : Nat) (x1 : Int32) (σ : aH) : Lq G d M_291 (32, [some (.ref 0), some (.int x1)], [], σ) = Lq G d M_291 (33, [some (.ref 0), some (.int x1)], [.int (-1 : Int32)], σ) :=
  (aUn_eq (tkd G.1 G.2) tmi (aRun (tkd G.1 G.2) tmi tmt d) M_291 [] 1 (32, [some (.ref 0), some (.int x1)], [], σ)).trans rfl
set_option maxRecDepth 20000 in
theorem q_291_3213 (G : Nat × (Nat → Int32)) (d : Nat) (x1 : Int32) (s0 : Int32) (σ : aH) : Lq G d M_291 (33, [some (.ref 0), some (.int x1)], [.int s0], σ) = some (.inl (some (.int s0)), σ) :=
  (aUn_eq (tkd G.1 G.2) tmi (aRun (tkd G.1 G.2) tmi tmt d) M_291 [] 1 (33, [some (.ref 0), some (.int x1)], [.int s0], σ)).trans rfl
set_option maxRecDepth 20000 in
theorem q_291_3214 (G : Nat × (Nat → Int32)) (d : Nat) (x1 : Int32) (σ : aH) : Lq G d M_291 (9, [some (.ref 0), some (.int x1)], [], σ) = Lq G d M_291 (15, [some (.ref 0), some (.int x1)], [.int (0 : Int32), .int x1, .ref 24], σ) :=
  (aUn_eq (tkd G.1 G.2) tmi (aRun (tkd G.1 G.2) tmi tmt d) M_291 [] 4 (9, [some (.ref 0), some (.int x1)], [], σ)).trans rfl
set_option maxRecDepth 20000 in
theorem q_291_3215 (G : Nat × (Nat → Int32)) (d : Nat) (x1 : Int32) (s0 : Int32) (s1 : Int32) (σ : aH) : Lq G d M_291 (15, [some (.ref 0), some (.int x1)], [.int s0, .int s1, .ref 24], σ) = aCI (Rn G d 286 [.ref 24, .int s1, .int s0] σ) fun v2 σ1 => Lq G d M_291 (18, [some (.ref 0), some (.int x1)], [.int v2], σ1) :=
  (aUn_eq (tkd G.1 G.2) tmi (aRun (tkd G.1 G.2) tmi tmt d) M_291 [] 1 (15, [some (.ref 0), some (.int x1)], [.int s0, .int s1, .ref 24], σ)).trans rfl
set_option maxRecDepth 20000 in
theorem q_291_3216 (G : Nat × (Nat → Int32)) (d : Nat) (x1 : Int32) (s0 : Int32) (σ : aH) : Lq G d M_291 (18, [some (.ref 0), some (.int x1)], [.int s0], σ) = Lq G d M_291 (21, [some (.ref 0), some (.int x1)], [.int (500000 : Int32), .int s0], σ) :=
  (aUn_eq (tkd G.1 G.2) tmi (aRun (tkd G.1 G.2) tmi tmt d) M_291 [] 1 (18, [some (.ref 0), some (.int x1)], [.int s0], σ)).trans rfl
set_option maxRecDepth 20000 in
theorem q_291_3217 (G : Nat × (Nat → Int32)) (d : Nat) (x1 : Int32) (s0 : Int32) (s1 : Int32) (σ : aH) : Lq G d M_291 (21, [some (.ref 0), some (.int x1)], [.int s0, .int s1], σ) = if s0 ≤ s1 then Lq G d M_291 (26, [some (.ref 0), some (.int x1)], [], σ) else Lq G d M_291 (24, [some (.ref 0), some (.int x1)], [], σ) :=
  (aUn_eq (tkd G.1 G.2) tmi (aRun (tkd G.1 G.2) tmi tmt d) M_291 [] 1 (21, [some (.ref 0), some (.int x1)], [.int s0, .int s1], σ)).trans rfl
set_option maxRecDepth 20000 in
theorem q_291_3218 (G : Nat × (Nat → Int32)) (d : Nat) (x1 : Int32) (σ : aH) : Lq G d M_291 (26, [some (.ref 0), some (.int x1)], [], σ) = Lq G d M_291 (2, [some (.ref 0), some (.int (x1 + (1 : Int32)))], [], σ) :=
  (aUn_eq (tkd G.1 G.2) tmi (aRun (tkd G.1 G.2) tmi tmt d) M_291 [] 2 (26, [some (.ref 0), some (.int x1)], [], σ)).trans rfl
set_option maxRecDepth 20000 in
theorem q_291_3219 (G : Nat × (Nat → Int32)) (d : Nat) (x1 : Int32) (σ : aH) : Lq G d M_291 (24, [some (.ref 0), some (.int x1)], [], σ) = Lq G d M_291 (25, [some (.ref 0), some (.int x1)], [.int x1], σ) :=
  (aUn_eq (tkd G.1 G.2) tmi (aRun (tkd G.1 G.2) tmi tmt d) M_291 [] 1 (24, [some (.ref 0), some (.int x1)], [], σ)).trans rfl
set_option maxRecDepth 20000 in
theorem q_291_3220 (G : Nat × (Nat → Int32)) (d : Nat) (x1 : Int32) (s0 : Int32) (σ : aH) : Lq G d M_291 (25, [some (.ref 0), some (.int x1)], [.int s0], σ) = some (.inl (some (.int s0)), σ) :=
  (aUn_eq (tkd G.1 G.2) tmi (aRun (tkd G.1 G.2) tmi tmt d) M_291 [] 1 (25, [some (.ref 0), some (.int x1)], [.int s0], σ)).trans rfl
set_option maxRecDepth 20000 in
theorem q_292_3221 (G : Nat × (Nat → Int32)) (d : Nat) (x1 : Int32) (σ : aH) : Lq G d M_292 (0, [some (.ref 0), some (.int x1), none], [], σ) = Lq G d M_292 (2, [some (.ref 0), some (.int x1), some (.int (0 : Int32))], [], σ) :=
  (aUn_eq (tkd G.1 G.2) tmi (aRun (tkd G.1 G.2) tmi tmt d) M_292 [] 2 (0, [some (.ref 0), some (.int x1), none], [], σ)).trans rfl
set_option maxRecDepth 20000 in
theorem q_292_3222 (G : Nat × (Nat → Int32)) (d : Nat) (x1 : Int32) (x2 : Int32) (σ : aH) : Lq G d M_292 (2, [some (.ref 0), some (.int x1), some (.int x2)], [], σ) = Lq G d M_292 (6, [some (.ref 0), some (.int x1), some (.int x2)], [.int (2000 : Int32), .int x2], σ) :=
  (aUn_eq (tkd G.1 G.2) tmi (aRun (tkd G.1 G.2) tmi tmt d) M_292 [] 2 (2, [some (.ref 0), some (.int x1), some (.int x2)], [], σ)).trans rfl
set_option maxRecDepth 20000 in
theorem q_292_3223 (G : Nat × (Nat → Int32)) (d : Nat) (x1 : Int32) (x2 : Int32) (s0 : Int32) (s1 : Int32) (σ : aH) : Lq G d M_292 (6, [some (.ref 0), some (.int x1), some (.int x2)], [.int s0, .int s1], σ) = if s0 < s1 then Lq G d M_292 (32, [some (.ref 0), some (.int x1), some (.int x2)], [], σ) else Lq G d M_292 (9, [some (.ref 0), some (.int x1), some (.int x2)], [], σ) :=
  (aUn_eq (tkd G.1 G.2) tmi (aRun (tkd G.1 G.2) tmi tmt d) M_292 [] 1 (6, [some (.ref 0), some (.int x1), some (.int x2)], [.int s0, .int s1], σ)).trans rfl
set_option maxRecDepth 20000 in
theorem q_292_3224 (G : Nat × (Nat → Int32)) (d : Nat) (x1 : Int32) (x2 : Int32) (σ : aH) : Lq G d M_292 (32, [some (.ref 0), some (.int x1), some (.int x2)], [], σ) = Lq G d M_292 (33, [some (.ref 0), some (.int x1), some (.int x2)], [.int (-1 : Int32)], σ) :=
  (aUn_eq (tkd G.1 G.2) tmi (aRun (tkd G.1 G.2) tmi tmt d) M_292 [] 1 (32, [some (.ref 0), some (.int x1), some (.int x2)], [], σ)).trans rfl
set_option maxRecDepth 20000 in
theorem q_292_3225 (G : Nat × (Nat → Int32)) (d : Nat) (x1 : Int32) (x2 : Int32) (s0 : Int32) (σ : aH) : Lq G d M_292 (33, [some (.ref 0), some (.int x1), some (.int x2)], [.int s0], σ) = some (.inl (some (.int s0)), σ) :=
  (aUn_eq (tkd G.1 G.2) tmi (aRun (tkd G.1 G.2) tmi tmt d) M_292 [] 1 (33, [some (.ref 0), some (.int x1), some (.int x2)], [.int s0], σ)).trans rfl
set_option maxRecDepth 20000 in
theorem q_292_3226 (G : Nat × (Nat → Int32)) (d : Nat) (x1 : Int32) (x2 : Int32) (σ : aH) : Lq G d M_292 (9, [some (.ref 0), some (.int x1), some (.int x2)], [], σ) = Lq G d M_292 (15, [some (.ref 0), some (.int x1), some (.int x2)], [.int x2, .int x1, .ref 24], σ) :=
  (aUn_eq (tkd G.1 G.2) tmi (aRun (tkd G.1 G.2) tmi tmt d) M_292 [] 4 (9, [some (.ref 0), some (.int x1), some (.int x2)], [], σ)).trans rfl
set_option maxRecDepth 20000 in
theorem q_292_3227 (G : Nat × (Nat → Int32)) (d : Nat) (x1 : Int32) (x2 : Int32) (s0 : Int32) (s1 : Int32) (σ : aH) : Lq G d M_292 (15, [some (.ref 0), some (.int x1), some (.int x2)], [.int s0, .int s1, .ref 24], σ) = aCI (Rn G d 286 [.ref 24, .int s1, .int s0] σ) fun v2 σ1 => Lq G d M_292 (18, [some (.ref 0), some (.int x1), some (.int x2)], [.int v2], σ1) :=
  (aUn_eq (tkd G.1 G.2) tmi (aRun (tkd G.1 G.2) tmi tmt d) M_292 [] 1 (15, [some (.ref 0), some (.int x1), some (.int x2)], [.int s0, .int s1, .ref 24], σ)).trans rfl
set_option maxRecDepth 20000 in
theorem q_292_3228 (G : Nat × (Nat → Int32)) (d : Nat) (x1 : Int32) (x2 : Int32) (s0 : Int32) (σ : aH) : Lq G d M_292 (18, [some (.ref 0), some (.int x1), some (.int x2)], [.int s0], σ) = Lq G d M_292 (21, [some (.ref 0), some (.int x1), some (.int x2)], [.int (500000 : Int32), .int s0], σ) :=
  (aUn_eq (tkd G.1 G.2) tmi (aRun (tkd G.1 G.2) tmi tmt d) M_292 [] 1 (18, [some (.ref 0), some (.int x1), some (.int x2)], [.int s0], σ)).trans rfl
set_option maxRecDepth 20000 in
theorem q_292_3229 (G : Nat × (Nat → Int32)) (d : Nat) (x1 : Int32) (x2 : Int32) (s0 : Int32) (s1 : Int32) (σ : aH) : Lq G d M_292 (21, [some (.ref 0), some (.int x1), some (.int x2)], [.int s0, .int s1], σ) = if s0 ≤ s1 then Lq G d M_292 (26, [some (.ref 0), some (.int x1), some (.int x2)], [], σ) else Lq G d M_292 (24, [some (.ref 0), some (.int x1), some (.int x2)], [], σ) :=
  (aUn_eq (tkd G.1 G.2) tmi (aRun (tkd G.1 G.2) tmi tmt d) M_292 [] 1 (21, [some (.ref 0), some (.int x1), some (.int x2)], [.int s0, .int s1], σ)).trans rfl
