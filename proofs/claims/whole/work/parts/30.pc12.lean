/-! ===== the methods in pieces, as equations (by wip/gen/emit_eqs2.py) ===== -/
set_option maxRecDepth 20000 in
theorem q_292_3230 (G : Nat × (Nat → Int32)) (d : Nat) (x1 : Int32) (x2 : Int32) (σ : aH) : Lq G d M_292 (26, [some (.ref 0), some (.int x1), some (.int x2)], [], σ) = Lq G d M_292 (2, [some (.ref 0), some (.int x1), some (.int (x2 + (10 : Int32)))], [], σ) :=
  (aUn_eq (tkd G.1 G.2) tmi (aRun (tkd G.1 G.2) tmi tmt d) M_292 [] 2 (26, [some (.ref 0), some (.int x1), some (.int x2)], [], σ)).trans rfl
set_option maxRecDepth 20000 in
theorem q_292_3231 (G : Nat × (Nat → Int32)) (d : Nat) (x1 : Int32) (x2 : Int32) (σ : aH) : Lq G d M_292 (24, [some (.ref 0), some (.int x1), some (.int x2)], [], σ) = Lq G d M_292 (25, [some (.ref 0), some (.int x1), some (.int x2)], [.int x2], σ) :=
  (aUn_eq (tkd G.1 G.2) tmi (aRun (tkd G.1 G.2) tmi tmt d) M_292 [] 1 (24, [some (.ref 0), some (.int x1), some (.int x2)], [], σ)).trans rfl
set_option maxRecDepth 20000 in
theorem q_292_3232 (G : Nat × (Nat → Int32)) (d : Nat) (x1 : Int32) (x2 : Int32) (s0 : Int32) (σ : aH) : Lq G d M_292 (25, [some (.ref 0), some (.int x1), some (.int x2)], [.int s0], σ) = some (.inl (some (.int s0)), σ) :=
  (aUn_eq (tkd G.1 G.2) tmi (aRun (tkd G.1 G.2) tmi tmt d) M_292 [] 1 (25, [some (.ref 0), some (.int x1), some (.int x2)], [.int s0], σ)).trans rfl
set_option maxRecDepth 20000 in
theorem q_296_3233 (G : Nat × (Nat → Int32)) (d : Nat) (x1 : Int32) (σ : aH) : Lq G d M_296 (0, [some (.ref 0), some (.int x1), none, none], [], σ) = Lq G d M_296 (4, [some (.ref 0), some (.int x1), some (.int (0 : Int32)), some (.int (0 : Int32))], [], σ) :=
  (aUn_eq (tkd G.1 G.2) tmi (aRun (tkd G.1 G.2) tmi tmt d) M_296 [] 4 (0, [some (.ref 0), some (.int x1), none, none], [], σ)).trans rfl
set_option maxRecDepth 20000 in
theorem q_296_3234 (G : Nat × (Nat → Int32)) (d : Nat) (x1 : Int32) (x2 : Int32) (x3 : Int32) (σ : aH) : Lq G d M_296 (4, [some (.ref 0), some (.int x1), some (.int x2), some (.int x3)], [], σ) = Lq G d M_296 (12, [some (.ref 0), some (.int x1), some (.int x2), some (.int x3)], [.int (σ.1 13 1), .int x3], σ) :=
  (aUn_eq (tkd G.1 G.2) tmi (aRun (tkd G.1 G.2) tmi tmt d) M_296 [] 4 (4, [some (.ref 0), some (.int x1), some (.int x2), some (.int x3)], [], σ)).trans rfl
set_option maxRecDepth 20000 in
theorem q_296_3235 (G : Nat × (Nat → Int32)) (d : Nat) (x1 : Int32) (x2 : Int32) (x3 : Int32) (s0 : Int32) (s1 : Int32) (σ : aH) : Lq G d M_296 (12, [some (.ref 0), some (.int x1), some (.int x2), some (.int x3)], [.int s0, .int s1], σ) = if s0 ≤ s1 then Lq G d M_296 (40, [some (.ref 0), some (.int x1), some (.int x2), some (.int x3)], [], σ) else Lq G d M_296 (15, [some (.ref 0), some (.int x1), some (.int x2), some (.int x3)], [], σ) :=
  (aUn_eq (tkd G.1 G.2) tmi (aRun (tkd G.1 G.2) tmi tmt d) M_296 [] 1 (12, [some (.ref 0), some (.int x1), some (.int x2), some (.int x3)], [.int s0, .int s1], σ)).trans rfl
set_option maxRecDepth 20000 in
theorem q_296_3236 (G : Nat × (Nat → Int32)) (d : Nat) (x1 : Int32) (x2 : Int32) (x3 : Int32) (σ : aH) : Lq G d M_296 (40, [some (.ref 0), some (.int x1), some (.int x2), some (.int x3)], [], σ) = Lq G d M_296 (41, [some (.ref 0), some (.int x1), some (.int x2), some (.int x3)], [.int x2], σ) :=
  (aUn_eq (tkd G.1 G.2) tmi (aRun (tkd G.1 G.2) tmi tmt d) M_296 [] 1 (40, [some (.ref 0), some (.int x1), some (.int x2), some (.int x3)], [], σ)).trans rfl
set_option maxRecDepth 20000 in
theorem q_296_3237 (G : Nat × (Nat → Int32)) (d : Nat) (x1 : Int32) (x2 : Int32) (x3 : Int32) (s0 : Int32) (σ : aH) : Lq G d M_296 (41, [some (.ref 0), some (.int x1), some (.int x2), some (.int x3)], [.int s0], σ) = aNar .boolean (s0) (some (.inl (some (.int s0)), σ)) :=
  (aUn_eq (tkd G.1 G.2) tmi (aRun (tkd G.1 G.2) tmi tmt d) M_296 [] 1 (41, [some (.ref 0), some (.int x1), some (.int x2), some (.int x3)], [.int s0], σ)).trans rfl
set_option maxRecDepth 20000 in
theorem q_296_3238 (G : Nat × (Nat → Int32)) (d : Nat) (x1 : Int32) (x2 : Int32) (x3 : Int32) (σ : aH) : Lq G d M_296 (15, [some (.ref 0), some (.int x1), some (.int x2), some (.int x3)], [], σ) = Lq G d M_296 (16, [some (.ref 0), some (.int x1), some (.int x2), some (.int x3)], [.int x2], σ) :=
  (aUn_eq (tkd G.1 G.2) tmi (aRun (tkd G.1 G.2) tmi tmt d) M_296 [] 1 (15, [some (.ref 0), some (.int x1), some (.int x2), some (.int x3)], [], σ)).trans rfl
set_option maxRecDepth 20000 in
theorem q_296_3239 (G : Nat × (Nat → Int32)) (d : Nat) (x1 : Int32) (x2 : Int32) (x3 : Int32) (s0 : Int32) (σ : aH) : Lq G d M_296 (16, [some (.ref 0), some (.int x1), some (.int x2), some (.int x3)], [.int s0], σ) = if s0 = 0 then Lq G d M_296 (19, [some (.ref 0), some (.int x1), some (.int x2), some (.int x3)], [], σ) else Lq G d M_296 (28, [some (.ref 0), some (.int x1), some (.int x2), some (.int x3)], [], σ) :=
  (aUn_eq (tkd G.1 G.2) tmi (aRun (tkd G.1 G.2) tmi tmt d) M_296 [] 1 (16, [some (.ref 0), some (.int x1), some (.int x2), some (.int x3)], [.int s0], σ)).trans rfl
set_option maxRecDepth 20000 in
theorem q_296_3240 (G : Nat × (Nat → Int32)) (d : Nat) (x1 : Int32) (x2 : Int32) (x3 : Int32) (σ : aH) : Lq G d M_296 (19, [some (.ref 0), some (.int x1), some (.int x2), some (.int x3)], [], σ) = Lq G d M_296 (22, [some (.ref 0), some (.int x1), some (.int x2), some (.int x3)], [.int x1, .int x3, .ref 0], σ) :=
  (aUn_eq (tkd G.1 G.2) tmi (aRun (tkd G.1 G.2) tmi tmt d) M_296 [] 3 (19, [some (.ref 0), some (.int x1), some (.int x2), some (.int x3)], [], σ)).trans rfl
set_option maxRecDepth 20000 in
theorem q_296_3241 (G : Nat × (Nat → Int32)) (d : Nat) (x1 : Int32) (x2 : Int32) (x3 : Int32) (s0 : Int32) (s1 : Int32) (σ : aH) : Lq G d M_296 (22, [some (.ref 0), some (.int x1), some (.int x2), some (.int x3)], [.int s0, .int s1, .ref 0], σ) = aCI (Rn G d 297 [.ref 0, .int s1, .int s0] σ) fun v2 σ1 => Lq G d M_296 (25, [some (.ref 0), some (.int x1), some (.int x2), some (.int x3)], [.int v2], σ1) :=
  (aUn_eq (tkd G.1 G.2) tmi (aRun (tkd G.1 G.2) tmi tmt d) M_296 [] 1 (22, [some (.ref 0), some (.int x1), some (.int x2), some (.int x3)], [.int s0, .int s1, .ref 0], σ)).trans rfl
set_option maxRecDepth 20000 in
theorem q_296_3242 (G : Nat × (Nat → Int32)) (d : Nat) (x1 : Int32) (x2 : Int32) (x3 : Int32) (s0 : Int32) (σ : aH) : Lq G d M_296 (25, [some (.ref 0), some (.int x1), some (.int x2), some (.int x3)], [.int s0], σ) = if s0 = 0 then Lq G d M_296 (32, [some (.ref 0), some (.int x1), some (.int x2), some (.int x3)], [], σ) else Lq G d M_296 (28, [some (.ref 0), some (.int x1), some (.int x2), some (.int x3)], [], σ) :=
  (aUn_eq (tkd G.1 G.2) tmi (aRun (tkd G.1 G.2) tmi tmt d) M_296 [] 1 (25, [some (.ref 0), some (.int x1), some (.int x2), some (.int x3)], [.int s0], σ)).trans rfl
set_option maxRecDepth 20000 in
theorem q_296_3243 (G : Nat × (Nat → Int32)) (d : Nat) (x1 : Int32) (x2 : Int32) (x3 : Int32) (σ : aH) : Lq G d M_296 (32, [some (.ref 0), some (.int x1), some (.int x2), some (.int x3)], [], σ) = Lq G d M_296 (37, [some (.ref 0), some (.int x1), some (.int (0 : Int32)), some (.int (x3 + (1 : Int32)))], [], σ) :=
  (aUn_eq (tkd G.1 G.2) tmi (aRun (tkd G.1 G.2) tmi tmt d) M_296 [] 3 (32, [some (.ref 0), some (.int x1), some (.int x2), some (.int x3)], [], σ)).trans rfl
set_option maxRecDepth 20000 in
theorem q_296_3244 (G : Nat × (Nat → Int32)) (d : Nat) (x1 : Int32) (x2 : Int32) (x3 : Int32) (σ : aH) : Lq G d M_296 (37, [some (.ref 0), some (.int x1), some (.int x2), some (.int x3)], [], σ) = Lq G d M_296 (4, [some (.ref 0), some (.int x1), some (.int x2), some (.int x3)], [], σ) :=
  (aUn_eq (tkd G.1 G.2) tmi (aRun (tkd G.1 G.2) tmi tmt d) M_296 [] 1 (37, [some (.ref 0), some (.int x1), some (.int x2), some (.int x3)], [], σ)).trans rfl
set_option maxRecDepth 20000 in
theorem q_296_3245 (G : Nat × (Nat → Int32)) (d : Nat) (x1 : Int32) (x2 : Int32) (x3 : Int32) (σ : aH) : Lq G d M_296 (28, [some (.ref 0), some (.int x1), some (.int x2), some (.int x3)], [], σ) = Lq G d M_296 (37, [some (.ref 0), some (.int x1), some (.int (1 : Int32)), some (.int (x3 + (1 : Int32)))], [], σ) :=
  (aUn_eq (tkd G.1 G.2) tmi (aRun (tkd G.1 G.2) tmi tmt d) M_296 [] 4 (28, [some (.ref 0), some (.int x1), some (.int x2), some (.int x3)], [], σ)).trans rfl
set_option maxRecDepth 20000 in
theorem q_161_3246 (G : Nat × (Nat → Int32)) (d : Nat) (x1 : Int32) (x2 : Int32) (σ : aH) : Lq G d M_161 (0, [some (.ref 24), some (.int x1), some (.int x2)], [], σ) = Lq G d M_161 (10, [some (.ref 24), some (.int x1), some (.int x2)], [], (aSI (aSI σ 24 0 x1) 24 1 x2)) :=
  (aUn_eq (tkd G.1 G.2) tmi (aRun (tkd G.1 G.2) tmi tmt d) M_161 [] 6 (0, [some (.ref 24), some (.int x1), some (.int x2)], [], σ)).trans rfl
set_option maxRecDepth 20000 in
theorem q_161_3247 (G : Nat × (Nat → Int32)) (d : Nat) (x1 : Int32) (x2 : Int32) (σ : aH) : Lq G d M_161 (10, [some (.ref 24), some (.int x1), some (.int x2)], [], σ) = some (.inl none, σ) :=
  (aUn_eq (tkd G.1 G.2) tmi (aRun (tkd G.1 G.2) tmi tmt d) M_161 [] 1 (10, [some (.ref 24), some (.int x1), some (.int x2)], [], σ)).trans rfl
set_option maxRecDepth 20000 in
theorem q_298_3248 (G : Nat × (Nat → Int32)) (d : Nat) (x1 : Int32) (σ : aH) : Lq G d M_298 (0, [some (.ref 0), some (.int x1), none, none], [], σ) = Lq G d M_298 (4, [some (.ref 0), some (.int x1), some (.int (0 : Int32)), some (.int (0 : Int32))], [], σ) :=
  (aUn_eq (tkd G.1 G.2) tmi (aRun (tkd G.1 G.2) tmi tmt d) M_298 [] 4 (0, [some (.ref 0), some (.int x1), none, none], [], σ)).trans rfl
set_option maxRecDepth 20000 in
theorem q_298_3249 (G : Nat × (Nat → Int32)) (d : Nat) (x1 : Int32) (x2 : Int32) (x3 : Int32) (σ : aH) : Lq G d M_298 (4, [some (.ref 0), some (.int x1), some (.int x2), some (.int x3)], [], σ) = Lq G d M_298 (12, [some (.ref 0), some (.int x1), some (.int x2), some (.int x3)], [.int (σ.1 13 1), .int x3], σ) :=
  (aUn_eq (tkd G.1 G.2) tmi (aRun (tkd G.1 G.2) tmi tmt d) M_298 [] 4 (4, [some (.ref 0), some (.int x1), some (.int x2), some (.int x3)], [], σ)).trans rfl
set_option maxRecDepth 20000 in
theorem q_298_3250 (G : Nat × (Nat → Int32)) (d : Nat) (x1 : Int32) (x2 : Int32) (x3 : Int32) (s0 : Int32) (s1 : Int32) (σ : aH) : Lq G d M_298 (12, [some (.ref 0), some (.int x1), some (.int x2), some (.int x3)], [.int s0, .int s1], σ) = if s0 ≤ s1 then Lq G d M_298 (81, [some (.ref 0), some (.int x1), some (.int x2), some (.int x3)], [], σ) else Lq G d M_298 (15, [some (.ref 0), some (.int x1), some (.int x2), some (.int x3)], [], σ) :=
  (aUn_eq (tkd G.1 G.2) tmi (aRun (tkd G.1 G.2) tmi tmt d) M_298 [] 1 (12, [some (.ref 0), some (.int x1), some (.int x2), some (.int x3)], [.int s0, .int s1], σ)).trans rfl
set_option maxRecDepth 20000 in
theorem q_298_3251 (G : Nat × (Nat → Int32)) (d : Nat) (x1 : Int32) (x2 : Int32) (x3 : Int32) (σ : aH) : Lq G d M_298 (81, [some (.ref 0), some (.int x1), some (.int x2), some (.int x3)], [], σ) = Lq G d M_298 (82, [some (.ref 0), some (.int x1), some (.int x2), some (.int x3)], [.int x2], σ) :=
  (aUn_eq (tkd G.1 G.2) tmi (aRun (tkd G.1 G.2) tmi tmt d) M_298 [] 1 (81, [some (.ref 0), some (.int x1), some (.int x2), some (.int x3)], [], σ)).trans rfl
set_option maxRecDepth 20000 in
theorem q_298_3252 (G : Nat × (Nat → Int32)) (d : Nat) (x1 : Int32) (x2 : Int32) (x3 : Int32) (s0 : Int32) (σ : aH) : Lq G d M_298 (82, [some (.ref 0), some (.int x1), some (.int x2), some (.int x3)], [.int s0], σ) = some (.inl (some (.int s0)), σ) :=
  (aUn_eq (tkd G.1 G.2) tmi (aRun (tkd G.1 G.2) tmi tmt d) M_298 [] 1 (82, [some (.ref 0), some (.int x1), some (.int x2), some (.int x3)], [.int s0], σ)).trans rfl
set_option maxRecDepth 20000 in
theorem q_298_3253 (G : Nat × (Nat → Int32)) (d : Nat) (x1 : Int32) (x2 : Int32) (x3 : Int32) (σ : aH) : Lq G d M_298 (15, [some (.ref 0), some (.int x1), some (.int x2), some (.int x3)], [], σ) = Lq G d M_298 (18, [some (.ref 0), some (.int x1), some (.int x2), some (.int x3)], [.int x1, .int x3, .ref 0], σ) :=
  (aUn_eq (tkd G.1 G.2) tmi (aRun (tkd G.1 G.2) tmi tmt d) M_298 [] 3 (15, [some (.ref 0), some (.int x1), some (.int x2), some (.int x3)], [], σ)).trans rfl
set_option maxRecDepth 20000 in
theorem q_298_3254 (G : Nat × (Nat → Int32)) (d : Nat) (x1 : Int32) (x2 : Int32) (x3 : Int32) (s0 : Int32) (s1 : Int32) (σ : aH) : Lq G d M_298 (18, [some (.ref 0), some (.int x1), some (.int x2), some (.int x3)], [.int s0, .int s1, .ref 0], σ) = aCI (Rn G d 297 [.ref 0, .int s1, .int s0] σ) fun v2 σ1 => Lq G d M_298 (21, [some (.ref 0), some (.int x1), some (.int x2), some (.int x3)], [.int v2], σ1) :=
  (aUn_eq (tkd G.1 G.2) tmi (aRun (tkd G.1 G.2) tmi tmt d) M_298 [] 1 (18, [some (.ref 0), some (.int x1), some (.int x2), some (.int x3)], [.int s0, .int s1, .ref 0], σ)).trans rfl
set_option maxRecDepth 20000 in
theorem q_298_3255 (G : Nat × (Nat → Int32)) (d : Nat) (x1 : Int32) (x2 : Int32) (x3 : Int32) (s0 : Int32) (σ : aH) : Lq G d M_298 (21, [some (.ref 0), some (.int x1), some (.int x2), some (.int x3)], [.int s0], σ) = if s0 = 0 then Lq G d M_298 (75, [some (.ref 0), some (.int x1), some (.int x2), some (.int x3)], [], σ) else Lq G d M_298 (24, [some (.ref 0), some (.int x1), some (.int x2), some (.int x3)], [], σ) :=
  (aUn_eq (tkd G.1 G.2) tmi (aRun (tkd G.1 G.2) tmi tmt d) M_298 [] 1 (21, [some (.ref 0), some (.int x1), some (.int x2), some (.int x3)], [.int s0], σ)).trans rfl
set_option maxRecDepth 20000 in
theorem q_298_3256 (G : Nat × (Nat → Int32)) (d : Nat) (x1 : Int32) (x2 : Int32) (x3 : Int32) (σ : aH) : Lq G d M_298 (75, [some (.ref 0), some (.int x1), some (.int x2), some (.int x3)], [], σ) = Lq G d M_298 (4, [some (.ref 0), some (.int x1), some (.int x2), some (.int (x3 + (1 : Int32)))], [], σ) :=
  (aUn_eq (tkd G.1 G.2) tmi (aRun (tkd G.1 G.2) tmi tmt d) M_298 [] 2 (75, [some (.ref 0), some (.int x1), some (.int x2), some (.int x3)], [], σ)).trans rfl
set_option maxRecDepth 20000 in
theorem q_298_3257 (G : Nat × (Nat → Int32)) (d : Nat) (x1 : Int32) (x2 : Int32) (x3 : Int32) (σ : aH) : Lq G d M_298 (24, [some (.ref 0), some (.int x1), some (.int x2), some (.int x3)], [], σ) = Lq G d M_298 (39, [some (.ref 0), some (.int x1), some (.int x2), some (.int x3)], [.int (17 : Int32), .int x3, .ref 13, .ref 3, .ref 24], σ) :=
  (aUn_eq (tkd G.1 G.2) tmi (aRun (tkd G.1 G.2) tmi tmt d) M_298 [] 8 (24, [some (.ref 0), some (.int x1), some (.int x2), some (.int x3)], [], σ)).trans rfl
set_option maxRecDepth 20000 in
theorem q_298_3258 (G : Nat × (Nat → Int32)) (d : Nat) (x1 : Int32) (x2 : Int32) (x3 : Int32) (s0 : Int32) (s1 : Int32) (σ : aH) : Lq G d M_298 (39, [some (.ref 0), some (.int x1), some (.int x2), some (.int x3)], [.int s0, .int s1, .ref 13, .ref 3, .ref 24], σ) = aCI (Rn G d 117 [.ref 13, .int s1, .int s0] σ) fun v2 σ1 => Lq G d M_298 (42, [some (.ref 0), some (.int x1), some (.int x2), some (.int x3)], [.int v2, .ref 3, .ref 24], σ1) :=
  (aUn_eq (tkd G.1 G.2) tmi (aRun (tkd G.1 G.2) tmi tmt d) M_298 [] 1 (39, [some (.ref 0), some (.int x1), some (.int x2), some (.int x3)], [.int s0, .int s1, .ref 13, .ref 3, .ref 24], σ)).trans rfl
set_option maxRecDepth 20000 in
theorem q_298_3259 (G : Nat × (Nat → Int32)) (d : Nat) (x1 : Int32) (x2 : Int32) (x3 : Int32) (s0 : Int32) (σ : aH) : Lq G d M_298 (42, [some (.ref 0), some (.int x1), some (.int x2), some (.int x3)], [.int s0, .ref 3, .ref 24], σ) = aCV (Rn G d 162 [.ref 24, .ref 3, .int s0] σ) fun σ1 => Lq G d M_298 (45, [some (.ref 0), some (.int x1), some (.int x2), some (.int x3)], [], σ1) :=
  (aUn_eq (tkd G.1 G.2) tmi (aRun (tkd G.1 G.2) tmi tmt d) M_298 [] 1 (42, [some (.ref 0), some (.int x1), some (.int x2), some (.int x3)], [.int s0, .ref 3, .ref 24], σ)).trans rfl
set_option maxRecDepth 20000 in
theorem q_298_3260 (G : Nat × (Nat → Int32)) (d : Nat) (x1 : Int32) (x2 : Int32) (x3 : Int32) (σ : aH) : Lq G d M_298 (45, [some (.ref 0), some (.int x1), some (.int x2), some (.int x3)], [], σ) = Lq G d M_298 (49, [some (.ref 0), some (.int x1), some (.int x2), some (.int x3)], [.ref 24], σ) :=
  (aUn_eq (tkd G.1 G.2) tmi (aRun (tkd G.1 G.2) tmi tmt d) M_298 [] 2 (45, [some (.ref 0), some (.int x1), some (.int x2), some (.int x3)], [], σ)).trans rfl
set_option maxRecDepth 20000 in
theorem q_298_3261 (G : Nat × (Nat → Int32)) (d : Nat) (x1 : Int32) (x2 : Int32) (x3 : Int32) (σ : aH) : Lq G d M_298 (49, [some (.ref 0), some (.int x1), some (.int x2), some (.int x3)], [.ref 24], σ) = aCV (Rn G d 176 [.ref 24] σ) fun σ1 => Lq G d M_298 (52, [some (.ref 0), some (.int x1), some (.int x2), some (.int x3)], [], σ1) :=
  (aUn_eq (tkd G.1 G.2) tmi (aRun (tkd G.1 G.2) tmi tmt d) M_298 [] 1 (49, [some (.ref 0), some (.int x1), some (.int x2), some (.int x3)], [.ref 24], σ)).trans rfl
set_option maxRecDepth 20000 in
theorem q_298_3262 (G : Nat × (Nat → Int32)) (d : Nat) (x1 : Int32) (x2 : Int32) (x3 : Int32) (σ : aH) : Lq G d M_298 (52, [some (.ref 0), some (.int x1), some (.int x2), some (.int x3)], [], σ) = Lq G d M_298 (60, [some (.ref 0), some (.int x1), some (.int x2), some (.int x3)], [.int (12 : Int32), .int x3, .ref 13, .int x2], σ) :=
  (aUn_eq (tkd G.1 G.2) tmi (aRun (tkd G.1 G.2) tmi tmt d) M_298 [] 5 (52, [some (.ref 0), some (.int x1), some (.int x2), some (.int x3)], [], σ)).trans rfl
set_option maxRecDepth 20000 in
theorem q_298_3263 (G : Nat × (Nat → Int32)) (d : Nat) (x1 : Int32) (x2 : Int32) (x3 : Int32) (s0 : Int32) (s1 : Int32) (s3 : Int32) (σ : aH) : Lq G d M_298 (60, [some (.ref 0), some (.int x1), some (.int x2), some (.int x3)], [.int s0, .int s1, .ref 13, .int s3], σ) = aCI (Rn G d 117 [.ref 13, .int s1, .int s0] σ) fun v2 σ1 => Lq G d M_298 (63, [some (.ref 0), some (.int x1), some (.int x2), some (.int x3)], [.int v2, .int s3], σ1) :=
  (aUn_eq (tkd G.1 G.2) tmi (aRun (tkd G.1 G.2) tmi tmt d) M_298 [] 1 (60, [some (.ref 0), some (.int x1), some (.int x2), some (.int x3)], [.int s0, .int s1, .ref 13, .int s3], σ)).trans rfl
set_option maxRecDepth 20000 in
theorem q_298_3264 (G : Nat × (Nat → Int32)) (d : Nat) (x1 : Int32) (x2 : Int32) (x3 : Int32) (s0 : Int32) (s1 : Int32) (σ : aH) : Lq G d M_298 (63, [some (.ref 0), some (.int x1), some (.int x2), some (.int x3)], [.int s0, .int s1], σ) = Lq G d M_298 (67, [some (.ref 0), some (.int x1), some (.int x2), some (.int x3)], [.ref 24, .int s0, .int s1], σ) :=
  (aUn_eq (tkd G.1 G.2) tmi (aRun (tkd G.1 G.2) tmi tmt d) M_298 [] 2 (63, [some (.ref 0), some (.int x1), some (.int x2), some (.int x3)], [.int s0, .int s1], σ)).trans rfl
set_option maxRecDepth 20000 in
theorem q_298_3265 (G : Nat × (Nat → Int32)) (d : Nat) (x1 : Int32) (x2 : Int32) (x3 : Int32) (s1 : Int32) (s2 : Int32) (σ : aH) : Lq G d M_298 (67, [some (.ref 0), some (.int x1), some (.int x2), some (.int x3)], [.ref 24, .int s1, .int s2], σ) = aCI (Rn G d 177 [.ref 24] σ) fun v2 σ1 => Lq G d M_298 (70, [some (.ref 0), some (.int x1), some (.int x2), some (.int x3)], [.int v2, .int s1, .int s2], σ1) :=
  (aUn_eq (tkd G.1 G.2) tmi (aRun (tkd G.1 G.2) tmi tmt d) M_298 [] 1 (67, [some (.ref 0), some (.int x1), some (.int x2), some (.int x3)], [.ref 24, .int s1, .int s2], σ)).trans rfl
set_option maxRecDepth 20000 in
theorem q_298_3266 (G : Nat × (Nat → Int32)) (d : Nat) (x1 : Int32) (x2 : Int32) (x3 : Int32) (s0 : Int32) (s1 : Int32) (s2 : Int32) (σ : aH) : Lq G d M_298 (70, [some (.ref 0), some (.int x1), some (.int x2), some (.int x3)], [.int s0, .int s1, .int s2], σ) = aCI (Rn G d 234 [.int s1, .int s0] σ) fun v2 σ1 => Lq G d M_298 (73, [some (.ref 0), some (.int x1), some (.int x2), some (.int x3)], [.int v2, .int s2], σ1) :=
  (aUn_eq (tkd G.1 G.2) tmi (aRun (tkd G.1 G.2) tmi tmt d) M_298 [] 1 (70, [some (.ref 0), some (.int x1), some (.int x2), some (.int x3)], [.int s0, .int s1, .int s2], σ)).trans rfl
set_option maxRecDepth 20000 in
theorem q_298_3267 (G : Nat × (Nat → Int32)) (d : Nat) (x1 : Int32) (x2 : Int32) (x3 : Int32) (s0 : Int32) (s1 : Int32) (σ : aH) : Lq G d M_298 (73, [some (.ref 0), some (.int x1), some (.int x2), some (.int x3)], [.int s0, .int s1], σ) = Lq G d M_298 (78, [some (.ref 0), some (.int x1), some (.int (s1 + s0)), some (.int (x3 + (1 : Int32)))], [], σ) :=
  (aUn_eq (tkd G.1 G.2) tmi (aRun (tkd G.1 G.2) tmi tmt d) M_298 [] 3 (73, [some (.ref 0), some (.int x1), some (.int x2), some (.int x3)], [.int s0, .int s1], σ)).trans rfl
set_option maxRecDepth 20000 in
theorem q_298_3268 (G : Nat × (Nat → Int32)) (d : Nat) (x1 : Int32) (x2 : Int32) (x3 : Int32) (σ : aH) : Lq G d M_298 (78, [some (.ref 0), some (.int x1), some (.int x2), some (.int x3)], [], σ) = Lq G d M_298 (4, [some (.ref 0), some (.int x1), some (.int x2), some (.int x3)], [], σ) :=
  (aUn_eq (tkd G.1 G.2) tmi (aRun (tkd G.1 G.2) tmi tmt d) M_298 [] 1 (78, [some (.ref 0), some (.int x1), some (.int x2), some (.int x3)], [], σ)).trans rfl
set_option maxRecDepth 20000 in
theorem q_227_3269 (G : Nat × (Nat → Int32)) (d : Nat) (x1 : Int32) (σ : aH) : Lq G d M_227 (0, [some (.ref 33), some (.int x1)], [], σ) = Lq G d M_227 (12, [some (.ref 33), some (.int x1)], [.int (((17 : Int32) * x1) + (15 : Int32)), .ref 40, .ref 33], σ) :=
  (aUn_eq (tkd G.1 G.2) tmi (aRun (tkd G.1 G.2) tmi tmt d) M_227 [] 8 (0, [some (.ref 33), some (.int x1)], [], σ)).trans rfl
set_option maxRecDepth 20000 in
theorem q_227_3270 (G : Nat × (Nat → Int32)) (d : Nat) (x1 : Int32) (s0 : Int32) (σ : aH) : Lq G d M_227 (12, [some (.ref 33), some (.int x1)], [.int s0, .ref 40, .ref 33], σ) = aIx (s0) 1020 fun j1 => Lq G d M_227 (13, [some (.ref 33), some (.int x1)], [.int (σ.1 40 j1), .ref 33], σ) :=
  (aUn_eq (tkd G.1 G.2) tmi (aRun (tkd G.1 G.2) tmi tmt d) M_227 [] 1 (12, [some (.ref 33), some (.int x1)], [.int s0, .ref 40, .ref 33], σ)).trans rfl
set_option maxRecDepth 20000 in
theorem q_227_3271 (G : Nat × (Nat → Int32)) (d : Nat) (x1 : Int32) (s0 : Int32) (σ : aH) : Lq G d M_227 (13, [some (.ref 33), some (.int x1)], [.int s0, .ref 33], σ) = Lq G d M_227 (24, [some (.ref 33), some (.int x1)], [.int (((17 : Int32) * x1) + (16 : Int32)), .ref 40, .int s0, .ref 33], σ) :=
  (aUn_eq (tkd G.1 G.2) tmi (aRun (tkd G.1 G.2) tmi tmt d) M_227 [] 7 (13, [some (.ref 33), some (.int x1)], [.int s0, .ref 33], σ)).trans rfl
set_option maxRecDepth 20000 in
theorem q_227_3272 (G : Nat × (Nat → Int32)) (d : Nat) (x1 : Int32) (s0 : Int32) (s2 : Int32) (σ : aH) : Lq G d M_227 (24, [some (.ref 33), some (.int x1)], [.int s0, .ref 40, .int s2, .ref 33], σ) = aIx (s0) 1020 fun j1 => Lq G d M_227 (25, [some (.ref 33), some (.int x1)], [.int (σ.1 40 j1), .int s2, .ref 33], σ) :=
  (aUn_eq (tkd G.1 G.2) tmi (aRun (tkd G.1 G.2) tmi tmt d) M_227 [] 1 (24, [some (.ref 33), some (.int x1)], [.int s0, .ref 40, .int s2, .ref 33], σ)).trans rfl
set_option maxRecDepth 20000 in
theorem q_227_3273 (G : Nat × (Nat → Int32)) (d : Nat) (x1 : Int32) (s0 : Int32) (s1 : Int32) (σ : aH) : Lq G d M_227 (25, [some (.ref 33), some (.int x1)], [.int s0, .int s1, .ref 33], σ) = aCV (Rn G d 168 [.ref 33, .int s1, .int s0] σ) fun σ1 => Lq G d M_227 (28, [some (.ref 33), some (.int x1)], [], σ1) :=
  (aUn_eq (tkd G.1 G.2) tmi (aRun (tkd G.1 G.2) tmi tmt d) M_227 [] 1 (25, [some (.ref 33), some (.int x1)], [.int s0, .int s1, .ref 33], σ)).trans rfl
set_option maxRecDepth 20000 in
theorem q_227_3274 (G : Nat × (Nat → Int32)) (d : Nat) (x1 : Int32) (σ : aH) : Lq G d M_227 (28, [some (.ref 33), some (.int x1)], [], σ) = some (.inl none, σ) :=
  (aUn_eq (tkd G.1 G.2) tmi (aRun (tkd G.1 G.2) tmi tmt d) M_227 [] 1 (28, [some (.ref 33), some (.int x1)], [], σ)).trans rfl
set_option maxRecDepth 20000 in
theorem q_302_3275 (G : Nat × (Nat → Int32)) (d : Nat) (x1 : Int32) (σ : aH) : Lq G d M_302 (0, [some (.ref 0), some (.int x1), none, none, none, none, none], [], σ) = Lq G d M_302 (7, [some (.ref 0), some (.int x1), some (.int (0 : Int32)), none, none, none, none], [.int (0 : Int32), .ref 3], σ) :=
  (aUn_eq (tkd G.1 G.2) tmi (aRun (tkd G.1 G.2) tmi tmt d) M_302 [] 5 (0, [some (.ref 0), some (.int x1), none, none, none, none, none], [], σ)).trans rfl
set_option maxRecDepth 20000 in
theorem q_302_3276 (G : Nat × (Nat → Int32)) (d : Nat) (x1 : Int32) (x2 : Int32) (s0 : Int32) (σ : aH) : Lq G d M_302 (7, [some (.ref 0), some (.int x1), some (.int x2), none, none, none, none], [.int s0, .ref 3], σ) = aCI (Rn G d 98 [.ref 3, .int s0] σ) fun v2 σ1 => Lq G d M_302 (10, [some (.ref 0), some (.int x1), some (.int x2), none, none, none, none], [.int v2], σ1) :=
  (aUn_eq (tkd G.1 G.2) tmi (aRun (tkd G.1 G.2) tmi tmt d) M_302 [] 1 (7, [some (.ref 0), some (.int x1), some (.int x2), none, none, none, none], [.int s0, .ref 3], σ)).trans rfl
set_option maxRecDepth 20000 in
theorem q_302_3277 (G : Nat × (Nat → Int32)) (d : Nat) (x1 : Int32) (x2 : Int32) (s0 : Int32) (σ : aH) : Lq G d M_302 (10, [some (.ref 0), some (.int x1), some (.int x2), none, none, none, none], [.int s0], σ) = Lq G d M_302 (14, [some (.ref 0), some (.int x1), some (.int x2), some (.int s0), some (.int (0 : Int32)), none, none], [], σ) :=
  (aUn_eq (tkd G.1 G.2) tmi (aRun (tkd G.1 G.2) tmi tmt d) M_302 [] 3 (10, [some (.ref 0), some (.int x1), some (.int x2), none, none, none, none], [.int s0], σ)).trans rfl
set_option maxRecDepth 20000 in
theorem q_302_3278 (G : Nat × (Nat → Int32)) (d : Nat) (x1 : Int32) (x2 : Int32) (x3 : Int32) (x4 : Int32) (σ : aH) : Lq G d M_302 (14, [some (.ref 0), some (.int x1), some (.int x2), some (.int x3), some (.int x4), none, none], [], σ) = Lq G d M_302 (17, [some (.ref 0), some (.int x1), some (.int x2), some (.int x3), some (.int x4), none, none], [.int x3, .int x4], σ) :=
  (aUn_eq (tkd G.1 G.2) tmi (aRun (tkd G.1 G.2) tmi tmt d) M_302 [] 2 (14, [some (.ref 0), some (.int x1), some (.int x2), some (.int x3), some (.int x4), none, none], [], σ)).trans rfl
set_option maxRecDepth 20000 in
theorem q_302_3279 (G : Nat × (Nat → Int32)) (d : Nat) (x1 : Int32) (x2 : Int32) (x3 : Int32) (x4 : Int32) (s0 : Int32) (s1 : Int32) (σ : aH) : Lq G d M_302 (17, [some (.ref 0), some (.int x1), some (.int x2), some (.int x3), some (.int x4), none, none], [.int s0, .int s1], σ) = if s0 ≤ s1 then Lq G d M_302 (86, [some (.ref 0), some (.int x1), some (.int x2), some (.int x3), some (.int x4), none, none], [], σ) else Lq G d M_302 (20, [some (.ref 0), some (.int x1), some (.int x2), some (.int x3), some (.int x4), none, none], [], σ) :=
  (aUn_eq (tkd G.1 G.2) tmi (aRun (tkd G.1 G.2) tmi tmt d) M_302 [] 1 (17, [some (.ref 0), some (.int x1), some (.int x2), some (.int x3), some (.int x4), none, none], [.int s0, .int s1], σ)).trans rfl
set_option maxRecDepth 20000 in
theorem q_302_3280 (G : Nat × (Nat → Int32)) (d : Nat) (x1 : Int32) (x2 : Int32) (x3 : Int32) (x4 : Int32) (σ : aH) : Lq G d M_302 (86, [some (.ref 0), some (.int x1), some (.int x2), some (.int x3), some (.int x4), none, none], [], σ) = Lq G d M_302 (87, [some (.ref 0), some (.int x1), some (.int x2), some (.int x3), some (.int x4), none, none], [.int x2], σ) :=
  (aUn_eq (tkd G.1 G.2) tmi (aRun (tkd G.1 G.2) tmi tmt d) M_302 [] 1 (86, [some (.ref 0), some (.int x1), some (.int x2), some (.int x3), some (.int x4), none, none], [], σ)).trans rfl
set_option maxRecDepth 20000 in
theorem q_302_3281 (G : Nat × (Nat → Int32)) (d : Nat) (x1 : Int32) (x2 : Int32) (x3 : Int32) (x4 : Int32) (s0 : Int32) (σ : aH) : Lq G d M_302 (87, [some (.ref 0), some (.int x1), some (.int x2), some (.int x3), some (.int x4), none, none], [.int s0], σ) = some (.inl (some (.int s0)), σ) :=
  (aUn_eq (tkd G.1 G.2) tmi (aRun (tkd G.1 G.2) tmi tmt d) M_302 [] 1 (87, [some (.ref 0), some (.int x1), some (.int x2), some (.int x3), some (.int x4), none, none], [.int s0], σ)).trans rfl
set_option maxRecDepth 20000 in
theorem q_302_3282 (G : Nat × (Nat → Int32)) (d : Nat) (x1 : Int32) (x2 : Int32) (x3 : Int32) (x4 : Int32) (σ : aH) : Lq G d M_302 (20, [some (.ref 0), some (.int x1), some (.int x2), some (.int x3), some (.int x4), none, none], [], σ) = Lq G d M_302 (24, [some (.ref 0), some (.int x1), some (.int x2), some (.int x3), some (.int x4), none, none], [.int (0 : Int32), .int x4, .ref 0], σ) :=
  (aUn_eq (tkd G.1 G.2) tmi (aRun (tkd G.1 G.2) tmi tmt d) M_302 [] 3 (20, [some (.ref 0), some (.int x1), some (.int x2), some (.int x3), some (.int x4), none, none], [], σ)).trans rfl
set_option maxRecDepth 20000 in
theorem q_302_3283 (G : Nat × (Nat → Int32)) (d : Nat) (x1 : Int32) (x2 : Int32) (x3 : Int32) (x4 : Int32) (s0 : Int32) (s1 : Int32) (σ : aH) : Lq G d M_302 (24, [some (.ref 0), some (.int x1), some (.int x2), some (.int x3), some (.int x4), none, none], [.int s0, .int s1, .ref 0], σ) = aCI (Rn G d 303 [.ref 0, .int s1, .int s0] σ) fun v2 σ1 => Lq G d M_302 (27, [some (.ref 0), some (.int x1), some (.int x2), some (.int x3), some (.int x4), none, none], [.int v2], σ1) :=
  (aUn_eq (tkd G.1 G.2) tmi (aRun (tkd G.1 G.2) tmi tmt d) M_302 [] 1 (24, [some (.ref 0), some (.int x1), some (.int x2), some (.int x3), some (.int x4), none, none], [.int s0, .int s1, .ref 0], σ)).trans rfl
set_option maxRecDepth 20000 in
theorem q_302_3284 (G : Nat × (Nat → Int32)) (d : Nat) (x1 : Int32) (x2 : Int32) (x3 : Int32) (x4 : Int32) (s0 : Int32) (σ : aH) : Lq G d M_302 (27, [some (.ref 0), some (.int x1), some (.int x2), some (.int x3), some (.int x4), none, none], [.int s0], σ) = Lq G d M_302 (36, [some (.ref 0), some (.int x1), some (.int x2), some (.int x3), some (.int x4), some (.int s0), none], [.int (s0 + (1 : Int32)), .int x4, .ref 0], σ) :=
  (aUn_eq (tkd G.1 G.2) tmi (aRun (tkd G.1 G.2) tmi tmt d) M_302 [] 6 (27, [some (.ref 0), some (.int x1), some (.int x2), some (.int x3), some (.int x4), none, none], [.int s0], σ)).trans rfl
set_option maxRecDepth 20000 in
theorem q_302_3285 (G : Nat × (Nat → Int32)) (d : Nat) (x1 : Int32) (x2 : Int32) (x3 : Int32) (x4 : Int32) (x5 : Int32) (s0 : Int32) (s1 : Int32) (σ : aH) : Lq G d M_302 (36, [some (.ref 0), some (.int x1), some (.int x2), some (.int x3), some (.int x4), some (.int x5), none], [.int s0, .int s1, .ref 0], σ) = aCI (Rn G d 303 [.ref 0, .int s1, .int s0] σ) fun v2 σ1 => Lq G d M_302 (39, [some (.ref 0), some (.int x1), some (.int x2), some (.int x3), some (.int x4), some (.int x5), none], [.int v2], σ1) :=
  (aUn_eq (tkd G.1 G.2) tmi (aRun (tkd G.1 G.2) tmi tmt d) M_302 [] 1 (36, [some (.ref 0), some (.int x1), some (.int x2), some (.int x3), some (.int x4), some (.int x5), none], [.int s0, .int s1, .ref 0], σ)).trans rfl
set_option maxRecDepth 20000 in
theorem q_302_3286 (G : Nat × (Nat → Int32)) (d : Nat) (x1 : Int32) (x2 : Int32) (x3 : Int32) (x4 : Int32) (x5 : Int32) (s0 : Int32) (σ : aH) : Lq G d M_302 (39, [some (.ref 0), some (.int x1), some (.int x2), some (.int x3), some (.int x4), some (.int x5), none], [.int s0], σ) = Lq G d M_302 (45, [some (.ref 0), some (.int x1), some (.int x2), some (.int x3), some (.int x4), some (.int x5), some (.int s0)], [.int (60 : Int32), .int x5], σ) :=
  (aUn_eq (tkd G.1 G.2) tmi (aRun (tkd G.1 G.2) tmi tmt d) M_302 [] 3 (39, [some (.ref 0), some (.int x1), some (.int x2), some (.int x3), some (.int x4), some (.int x5), none], [.int s0], σ)).trans rfl
set_option maxRecDepth 20000 in
theorem q_302_3287 (G : Nat × (Nat → Int32)) (d : Nat) (x1 : Int32) (x2 : Int32) (x3 : Int32) (x4 : Int32) (x5 : Int32) (x6 : Int32) (s0 : Int32) (s1 : Int32) (σ : aH) : Lq G d M_302 (45, [some (.ref 0), some (.int x1), some (.int x2), some (.int x3), some (.int x4), some (.int x5), some (.int x6)], [.int s0, .int s1], σ) = if s0 ≤ s1 then Lq G d M_302 (80, [some (.ref 0), some (.int x1), some (.int x2), some (.int x3), some (.int x4), some (.int x5), some (.int x6)], [], σ) else Lq G d M_302 (48, [some (.ref 0), some (.int x1), some (.int x2), some (.int x3), some (.int x4), some (.int x5), some (.int x6)], [], σ) :=
  (aUn_eq (tkd G.1 G.2) tmi (aRun (tkd G.1 G.2) tmi tmt d) M_302 [] 1 (45, [some (.ref 0), some (.int x1), some (.int x2), some (.int x3), some (.int x4), some (.int x5), some (.int x6)], [.int s0, .int s1], σ)).trans rfl
set_option maxRecDepth 20000 in
theorem q_302_3288 (G : Nat × (Nat → Int32)) (d : Nat) (x1 : Int32) (x2 : Int32) (x3 : Int32) (x4 : Int32) (x5 : Int32) (x6 : Int32) (σ : aH) : Lq G d M_302 (80, [some (.ref 0), some (.int x1), some (.int x2), some (.int x3), some (.int x4), some (.int x5), some (.int x6)], [], σ) = Lq G d M_302 (14, [some (.ref 0), some (.int x1), some (.int x2), some (.int x3), some (.int (x4 + (1 : Int32))), none, none], [], σ) :=
  (aUn_eq (tkd G.1 G.2) tmi (aRun (tkd G.1 G.2) tmi tmt d) M_302 [] 2 (80, [some (.ref 0), some (.int x1), some (.int x2), some (.int x3), some (.int x4), some (.int x5), some (.int x6)], [], σ)).trans rfl
set_option maxRecDepth 20000 in
theorem q_302_3289 (G : Nat × (Nat → Int32)) (d : Nat) (x1 : Int32) (x2 : Int32) (x3 : Int32) (x4 : Int32) (x5 : Int32) (x6 : Int32) (σ : aH) : Lq G d M_302 (48, [some (.ref 0), some (.int x1), some (.int x2), some (.int x3), some (.int x4), some (.int x5), some (.int x6)], [], σ) = Lq G d M_302 (52, [some (.ref 0), some (.int x1), some (.int x2), some (.int x3), some (.int x4), some (.int x5), some (.int x6)], [.int (60 : Int32), .int x6], σ) :=
  (aUn_eq (tkd G.1 G.2) tmi (aRun (tkd G.1 G.2) tmi tmt d) M_302 [] 2 (48, [some (.ref 0), some (.int x1), some (.int x2), some (.int x3), some (.int x4), some (.int x5), some (.int x6)], [], σ)).trans rfl
set_option maxRecDepth 20000 in
theorem q_302_3290 (G : Nat × (Nat → Int32)) (d : Nat) (x1 : Int32) (x2 : Int32) (x3 : Int32) (x4 : Int32) (x5 : Int32) (x6 : Int32) (s0 : Int32) (s1 : Int32) (σ : aH) : Lq G d M_302 (52, [some (.ref 0), some (.int x1), some (.int x2), some (.int x3), some (.int x4), some (.int x5), some (.int x6)], [.int s0, .int s1], σ) = if s0 ≤ s1 then Lq G d M_302 (80, [some (.ref 0), some (.int x1), some (.int x2), some (.int x3), some (.int x4), some (.int x5), some (.int x6)], [], σ) else Lq G d M_302 (55, [some (.ref 0), some (.int x1), some (.int x2), some (.int x3), some (.int x4), some (.int x5), some (.int x6)], [], σ) :=
  (aUn_eq (tkd G.1 G.2) tmi (aRun (tkd G.1 G.2) tmi tmt d) M_302 [] 1 (52, [some (.ref 0), some (.int x1), some (.int x2), some (.int x3), some (.int x4), some (.int x5), some (.int x6)], [.int s0, .int s1], σ)).trans rfl
set_option maxRecDepth 20000 in
theorem q_302_3291 (G : Nat × (Nat → Int32)) (d : Nat) (x1 : Int32) (x2 : Int32) (x3 : Int32) (x4 : Int32) (x5 : Int32) (x6 : Int32) (σ : aH) : Lq G d M_302 (55, [some (.ref 0), some (.int x1), some (.int x2), some (.int x3), some (.int x4), some (.int x5), some (.int x6)], [], σ) = Lq G d M_302 (58, [some (.ref 0), some (.int x1), some (.int x2), some (.int x3), some (.int x4), some (.int x5), some (.int x6)], [.int x5, .ref 0], σ) :=
  (aUn_eq (tkd G.1 G.2) tmi (aRun (tkd G.1 G.2) tmi tmt d) M_302 [] 2 (55, [some (.ref 0), some (.int x1), some (.int x2), some (.int x3), some (.int x4), some (.int x5), some (.int x6)], [], σ)).trans rfl
set_option maxRecDepth 20000 in
theorem q_302_3292 (G : Nat × (Nat → Int32)) (d : Nat) (x1 : Int32) (x2 : Int32) (x3 : Int32) (x4 : Int32) (x5 : Int32) (x6 : Int32) (s0 : Int32) (σ : aH) : Lq G d M_302 (58, [some (.ref 0), some (.int x1), some (.int x2), some (.int x3), some (.int x4), some (.int x5), some (.int x6)], [.int s0, .ref 0], σ) = aCI (Rn G d 305 [.ref 0, .int s0] σ) fun v2 σ1 => Lq G d M_302 (61, [some (.ref 0), some (.int x1), some (.int x2), some (.int x3), some (.int x4), some (.int x5), some (.int x6)], [.int v2], σ1) :=
  (aUn_eq (tkd G.1 G.2) tmi (aRun (tkd G.1 G.2) tmi tmt d) M_302 [] 1 (58, [some (.ref 0), some (.int x1), some (.int x2), some (.int x3), some (.int x4), some (.int x5), some (.int x6)], [.int s0, .ref 0], σ)).trans rfl
set_option maxRecDepth 20000 in
theorem q_302_3293 (G : Nat × (Nat → Int32)) (d : Nat) (x1 : Int32) (x2 : Int32) (x3 : Int32) (x4 : Int32) (x5 : Int32) (x6 : Int32) (s0 : Int32) (σ : aH) : Lq G d M_302 (61, [some (.ref 0), some (.int x1), some (.int x2), some (.int x3), some (.int x4), some (.int x5), some (.int x6)], [.int s0], σ) = if s0 = 0 then Lq G d M_302 (80, [some (.ref 0), some (.int x1), some (.int x2), some (.int x3), some (.int x4), some (.int x5), some (.int x6)], [], σ) else Lq G d M_302 (64, [some (.ref 0), some (.int x1), some (.int x2), some (.int x3), some (.int x4), some (.int x5), some (.int x6)], [], σ) :=
  (aUn_eq (tkd G.1 G.2) tmi (aRun (tkd G.1 G.2) tmi tmt d) M_302 [] 1 (61, [some (.ref 0), some (.int x1), some (.int x2), some (.int x3), some (.int x4), some (.int x5), some (.int x6)], [.int s0], σ)).trans rfl
set_option maxRecDepth 20000 in
theorem q_302_3294 (G : Nat × (Nat → Int32)) (d : Nat) (x1 : Int32) (x2 : Int32) (x3 : Int32) (x4 : Int32) (x5 : Int32) (x6 : Int32) (σ : aH) : Lq G d M_302 (64, [some (.ref 0), some (.int x1), some (.int x2), some (.int x3), some (.int x4), some (.int x5), some (.int x6)], [], σ) = Lq G d M_302 (65, [some (.ref 0), some (.int x1), some (.int x2), some (.int x3), some (.int x4), some (.int x5), some (.int x6)], [.int x1], σ) :=
  (aUn_eq (tkd G.1 G.2) tmi (aRun (tkd G.1 G.2) tmi tmt d) M_302 [] 1 (64, [some (.ref 0), some (.int x1), some (.int x2), some (.int x3), some (.int x4), some (.int x5), some (.int x6)], [], σ)).trans rfl
set_option maxRecDepth 20000 in
theorem q_302_3295 (G : Nat × (Nat → Int32)) (d : Nat) (x1 : Int32) (x2 : Int32) (x3 : Int32) (x4 : Int32) (x5 : Int32) (x6 : Int32) (s0 : Int32) (σ : aH) : Lq G d M_302 (65, [some (.ref 0), some (.int x1), some (.int x2), some (.int x3), some (.int x4), some (.int x5), some (.int x6)], [.int s0], σ) = if s0 = 0 then Lq G d M_302 (77, [some (.ref 0), some (.int x1), some (.int x2), some (.int x3), some (.int x4), some (.int x5), some (.int x6)], [], σ) else Lq G d M_302 (68, [some (.ref 0), some (.int x1), some (.int x2), some (.int x3), some (.int x4), some (.int x5), some (.int x6)], [], σ) :=
  (aUn_eq (tkd G.1 G.2) tmi (aRun (tkd G.1 G.2) tmi tmt d) M_302 [] 1 (65, [some (.ref 0), some (.int x1), some (.int x2), some (.int x3), some (.int x4), some (.int x5), some (.int x6)], [.int s0], σ)).trans rfl
set_option maxRecDepth 20000 in
theorem q_302_3296 (G : Nat × (Nat → Int32)) (d : Nat) (x1 : Int32) (x2 : Int32) (x3 : Int32) (x4 : Int32) (x5 : Int32) (x6 : Int32) (σ : aH) : Lq G d M_302 (77, [some (.ref 0), some (.int x1), some (.int x2), some (.int x3), some (.int x4), some (.int x5), some (.int x6)], [], σ) = Lq G d M_302 (83, [some (.ref 0), some (.int x1), some (.int (x2 + (1 : Int32))), some (.int x3), some (.int (x4 + (1 : Int32))), some (.int x5), some (.int x6)], [], σ) :=
  (aUn_eq (tkd G.1 G.2) tmi (aRun (tkd G.1 G.2) tmi tmt d) M_302 [] 2 (77, [some (.ref 0), some (.int x1), some (.int x2), some (.int x3), some (.int x4), some (.int x5), some (.int x6)], [], σ)).trans rfl
set_option maxRecDepth 20000 in
theorem q_302_3297 (G : Nat × (Nat → Int32)) (d : Nat) (x1 : Int32) (x2 : Int32) (x3 : Int32) (x4 : Int32) (x5 : Int32) (x6 : Int32) (σ : aH) : Lq G d M_302 (83, [some (.ref 0), some (.int x1), some (.int x2), some (.int x3), some (.int x4), some (.int x5), some (.int x6)], [], σ) = Lq G d M_302 (14, [some (.ref 0), some (.int x1), some (.int x2), some (.int x3), some (.int x4), none, none], [], σ) :=
  (aUn_eq (tkd G.1 G.2) tmi (aRun (tkd G.1 G.2) tmi tmt d) M_302 [] 1 (83, [some (.ref 0), some (.int x1), some (.int x2), some (.int x3), some (.int x4), some (.int x5), some (.int x6)], [], σ)).trans rfl
set_option maxRecDepth 20000 in
theorem q_302_3298 (G : Nat × (Nat → Int32)) (d : Nat) (x1 : Int32) (x2 : Int32) (x3 : Int32) (x4 : Int32) (x5 : Int32) (x6 : Int32) (σ : aH) : Lq G d M_302 (68, [some (.ref 0), some (.int x1), some (.int x2), some (.int x3), some (.int x4), some (.int x5), some (.int x6)], [], σ) = Lq G d M_302 (71, [some (.ref 0), some (.int x1), some (.int x2), some (.int x3), some (.int x4), some (.int x5), some (.int x6)], [.int x6, .ref 0], σ) :=
  (aUn_eq (tkd G.1 G.2) tmi (aRun (tkd G.1 G.2) tmi tmt d) M_302 [] 2 (68, [some (.ref 0), some (.int x1), some (.int x2), some (.int x3), some (.int x4), some (.int x5), some (.int x6)], [], σ)).trans rfl
set_option maxRecDepth 20000 in
theorem q_302_3299 (G : Nat × (Nat → Int32)) (d : Nat) (x1 : Int32) (x2 : Int32) (x3 : Int32) (x4 : Int32) (x5 : Int32) (x6 : Int32) (s0 : Int32) (σ : aH) : Lq G d M_302 (71, [some (.ref 0), some (.int x1), some (.int x2), some (.int x3), some (.int x4), some (.int x5), some (.int x6)], [.int s0, .ref 0], σ) = aCI (Rn G d 305 [.ref 0, .int s0] σ) fun v2 σ1 => Lq G d M_302 (74, [some (.ref 0), some (.int x1), some (.int x2), some (.int x3), some (.int x4), some (.int x5), some (.int x6)], [.int v2], σ1) :=
  (aUn_eq (tkd G.1 G.2) tmi (aRun (tkd G.1 G.2) tmi tmt d) M_302 [] 1 (71, [some (.ref 0), some (.int x1), some (.int x2), some (.int x3), some (.int x4), some (.int x5), some (.int x6)], [.int s0, .ref 0], σ)).trans rfl
set_option maxRecDepth 20000 in
theorem q_302_3300 (G : Nat × (Nat → Int32)) (d : Nat) (x1 : Int32) (x2 : Int32) (x3 : Int32) (x4 : Int32) (x5 : Int32) (x6 : Int32) (s0 : Int32) (σ : aH) : Lq G d M_302 (74, [some (.ref 0), some (.int x1), some (.int x2), some (.int x3), some (.int x4), some (.int x5), some (.int x6)], [.int s0], σ) = if s0 = 0 then Lq G d M_302 (80, [some (.ref 0), some (.int x1), some (.int x2), some (.int x3), some (.int x4), some (.int x5), some (.int x6)], [], σ) else Lq G d M_302 (77, [some (.ref 0), some (.int x1), some (.int x2), some (.int x3), some (.int x4), some (.int x5), some (.int x6)], [], σ) :=
  (aUn_eq (tkd G.1 G.2) tmi (aRun (tkd G.1 G.2) tmi tmt d) M_302 [] 1 (74, [some (.ref 0), some (.int x1), some (.int x2), some (.int x3), some (.int x4), some (.int x5), some (.int x6)], [.int s0], σ)).trans rfl
set_option maxRecDepth 20000 in
theorem q_304_3301 (G : Nat × (Nat → Int32)) (d : Nat) (x1 : Int32) (σ : aH) : Lq G d M_304 (0, [some (.ref 0), some (.int x1)], [], σ) = Lq G d M_304 (5, [some (.ref 0), some (.int x1)], [.int x1, .ref 17], σ) :=
  (aUn_eq (tkd G.1 G.2) tmi (aRun (tkd G.1 G.2) tmi tmt d) M_304 [] 3 (0, [some (.ref 0), some (.int x1)], [], σ)).trans rfl
set_option maxRecDepth 20000 in
theorem q_304_3302 (G : Nat × (Nat → Int32)) (d : Nat) (x1 : Int32) (s0 : Int32) (σ : aH) : Lq G d M_304 (5, [some (.ref 0), some (.int x1)], [.int s0, .ref 17], σ) = aCI (Rn G d 220 [.ref 17, .int s0] σ) fun v2 σ1 => Lq G d M_304 (8, [some (.ref 0), some (.int x1)], [.int v2], σ1) :=
  (aUn_eq (tkd G.1 G.2) tmi (aRun (tkd G.1 G.2) tmi tmt d) M_304 [] 1 (5, [some (.ref 0), some (.int x1)], [.int s0, .ref 17], σ)).trans rfl
set_option maxRecDepth 20000 in
theorem q_304_3303 (G : Nat × (Nat → Int32)) (d : Nat) (x1 : Int32) (s0 : Int32) (σ : aH) : Lq G d M_304 (8, [some (.ref 0), some (.int x1)], [.int s0], σ) = if s0 = 0 then Lq G d M_304 (30, [some (.ref 0), some (.int x1)], [], σ) else Lq G d M_304 (11, [some (.ref 0), some (.int x1)], [], σ) :=
  (aUn_eq (tkd G.1 G.2) tmi (aRun (tkd G.1 G.2) tmi tmt d) M_304 [] 1 (8, [some (.ref 0), some (.int x1)], [.int s0], σ)).trans rfl
set_option maxRecDepth 20000 in
theorem q_304_3304 (G : Nat × (Nat → Int32)) (d : Nat) (x1 : Int32) (σ : aH) : Lq G d M_304 (30, [some (.ref 0), some (.int x1)], [], σ) = Lq G d M_304 (31, [some (.ref 0), some (.int x1)], [.int (0 : Int32)], σ) :=
  (aUn_eq (tkd G.1 G.2) tmi (aRun (tkd G.1 G.2) tmi tmt d) M_304 [] 1 (30, [some (.ref 0), some (.int x1)], [], σ)).trans rfl
set_option maxRecDepth 20000 in
theorem q_304_3305 (G : Nat × (Nat → Int32)) (d : Nat) (x1 : Int32) (s0 : Int32) (σ : aH) : Lq G d M_304 (31, [some (.ref 0), some (.int x1)], [.int s0], σ) = aNar .boolean (s0) (some (.inl (some (.int s0)), σ)) :=
  (aUn_eq (tkd G.1 G.2) tmi (aRun (tkd G.1 G.2) tmi tmt d) M_304 [] 1 (31, [some (.ref 0), some (.int x1)], [.int s0], σ)).trans rfl
set_option maxRecDepth 20000 in
theorem q_304_3306 (G : Nat × (Nat → Int32)) (d : Nat) (x1 : Int32) (σ : aH) : Lq G d M_304 (11, [some (.ref 0), some (.int x1)], [], σ) = Lq G d M_304 (18, [some (.ref 0), some (.int x1)], [.int (15 : Int32), .int x1, .ref 13], σ) :=
  (aUn_eq (tkd G.1 G.2) tmi (aRun (tkd G.1 G.2) tmi tmt d) M_304 [] 4 (11, [some (.ref 0), some (.int x1)], [], σ)).trans rfl
set_option maxRecDepth 20000 in
theorem q_304_3307 (G : Nat × (Nat → Int32)) (d : Nat) (x1 : Int32) (s0 : Int32) (s1 : Int32) (σ : aH) : Lq G d M_304 (18, [some (.ref 0), some (.int x1)], [.int s0, .int s1, .ref 13], σ) = aCI (Rn G d 117 [.ref 13, .int s1, .int s0] σ) fun v2 σ1 => Lq G d M_304 (21, [some (.ref 0), some (.int x1)], [.int v2], σ1) :=
  (aUn_eq (tkd G.1 G.2) tmi (aRun (tkd G.1 G.2) tmi tmt d) M_304 [] 1 (18, [some (.ref 0), some (.int x1)], [.int s0, .int s1, .ref 13], σ)).trans rfl
set_option maxRecDepth 20000 in
theorem q_304_3308 (G : Nat × (Nat → Int32)) (d : Nat) (x1 : Int32) (s0 : Int32) (σ : aH) : Lq G d M_304 (21, [some (.ref 0), some (.int x1)], [.int s0], σ) = Lq G d M_304 (23, [some (.ref 0), some (.int x1)], [.int (100 : Int32), .int s0], σ) :=
  (aUn_eq (tkd G.1 G.2) tmi (aRun (tkd G.1 G.2) tmi tmt d) M_304 [] 1 (21, [some (.ref 0), some (.int x1)], [.int s0], σ)).trans rfl
set_option maxRecDepth 20000 in
theorem q_304_3309 (G : Nat × (Nat → Int32)) (d : Nat) (x1 : Int32) (s0 : Int32) (s1 : Int32) (σ : aH) : Lq G d M_304 (23, [some (.ref 0), some (.int x1)], [.int s0, .int s1], σ) = if s1 = s0 then Lq G d M_304 (30, [some (.ref 0), some (.int x1)], [], σ) else Lq G d M_304 (26, [some (.ref 0), some (.int x1)], [], σ) :=
  (aUn_eq (tkd G.1 G.2) tmi (aRun (tkd G.1 G.2) tmi tmt d) M_304 [] 1 (23, [some (.ref 0), some (.int x1)], [.int s0, .int s1], σ)).trans rfl
set_option maxRecDepth 20000 in
theorem q_304_3310 (G : Nat × (Nat → Int32)) (d : Nat) (x1 : Int32) (σ : aH) : Lq G d M_304 (26, [some (.ref 0), some (.int x1)], [], σ) = Lq G d M_304 (31, [some (.ref 0), some (.int x1)], [.int (1 : Int32)], σ) :=
  (aUn_eq (tkd G.1 G.2) tmi (aRun (tkd G.1 G.2) tmi tmt d) M_304 [] 2 (26, [some (.ref 0), some (.int x1)], [], σ)).trans rfl
set_option maxRecDepth 20000 in
theorem q_305_3311 (G : Nat × (Nat → Int32)) (d : Nat) (x1 : Int32) (σ : aH) : Lq G d M_305 (0, [some (.ref 0), some (.int x1)], [], σ) = Lq G d M_305 (2, [some (.ref 0), some (.int x1)], [.int x1, .ref 0], σ) :=
  (aUn_eq (tkd G.1 G.2) tmi (aRun (tkd G.1 G.2) tmi tmt d) M_305 [] 2 (0, [some (.ref 0), some (.int x1)], [], σ)).trans rfl
set_option maxRecDepth 20000 in
theorem q_305_3312 (G : Nat × (Nat → Int32)) (d : Nat) (x1 : Int32) (s0 : Int32) (σ : aH) : Lq G d M_305 (2, [some (.ref 0), some (.int x1)], [.int s0, .ref 0], σ) = aCI (Rn G d 304 [.ref 0, .int s0] σ) fun v2 σ1 => Lq G d M_305 (5, [some (.ref 0), some (.int x1)], [.int v2], σ1) :=
  (aUn_eq (tkd G.1 G.2) tmi (aRun (tkd G.1 G.2) tmi tmt d) M_305 [] 1 (2, [some (.ref 0), some (.int x1)], [.int s0, .ref 0], σ)).trans rfl
set_option maxRecDepth 20000 in
theorem q_305_3313 (G : Nat × (Nat → Int32)) (d : Nat) (x1 : Int32) (s0 : Int32) (σ : aH) : Lq G d M_305 (5, [some (.ref 0), some (.int x1)], [.int s0], σ) = if s0 = 0 then Lq G d M_305 (27, [some (.ref 0), some (.int x1)], [], σ) else Lq G d M_305 (8, [some (.ref 0), some (.int x1)], [], σ) :=
  (aUn_eq (tkd G.1 G.2) tmi (aRun (tkd G.1 G.2) tmi tmt d) M_305 [] 1 (5, [some (.ref 0), some (.int x1)], [.int s0], σ)).trans rfl
set_option maxRecDepth 20000 in
theorem q_305_3314 (G : Nat × (Nat → Int32)) (d : Nat) (x1 : Int32) (σ : aH) : Lq G d M_305 (27, [some (.ref 0), some (.int x1)], [], σ) = Lq G d M_305 (28, [some (.ref 0), some (.int x1)], [.int (0 : Int32)], σ) :=
  (aUn_eq (tkd G.1 G.2) tmi (aRun (tkd G.1 G.2) tmi tmt d) M_305 [] 1 (27, [some (.ref 0), some (.int x1)], [], σ)).trans rfl
set_option maxRecDepth 20000 in
theorem q_305_3315 (G : Nat × (Nat → Int32)) (d : Nat) (x1 : Int32) (s0 : Int32) (σ : aH) : Lq G d M_305 (28, [some (.ref 0), some (.int x1)], [.int s0], σ) = aNar .boolean (s0) (some (.inl (some (.int s0)), σ)) :=
  (aUn_eq (tkd G.1 G.2) tmi (aRun (tkd G.1 G.2) tmi tmt d) M_305 [] 1 (28, [some (.ref 0), some (.int x1)], [.int s0], σ)).trans rfl
set_option maxRecDepth 20000 in
theorem q_305_3316 (G : Nat × (Nat → Int32)) (d : Nat) (x1 : Int32) (σ : aH) : Lq G d M_305 (8, [some (.ref 0), some (.int x1)], [], σ) = Lq G d M_305 (15, [some (.ref 0), some (.int x1)], [.int (15 : Int32), .int x1, .ref 13], σ) :=
  (aUn_eq (tkd G.1 G.2) tmi (aRun (tkd G.1 G.2) tmi tmt d) M_305 [] 4 (8, [some (.ref 0), some (.int x1)], [], σ)).trans rfl
set_option maxRecDepth 20000 in
theorem q_305_3317 (G : Nat × (Nat → Int32)) (d : Nat) (x1 : Int32) (s0 : Int32) (s1 : Int32) (σ : aH) : Lq G d M_305 (15, [some (.ref 0), some (.int x1)], [.int s0, .int s1, .ref 13], σ) = aCI (Rn G d 117 [.ref 13, .int s1, .int s0] σ) fun v2 σ1 => Lq G d M_305 (18, [some (.ref 0), some (.int x1)], [.int v2], σ1) :=
  (aUn_eq (tkd G.1 G.2) tmi (aRun (tkd G.1 G.2) tmi tmt d) M_305 [] 1 (15, [some (.ref 0), some (.int x1)], [.int s0, .int s1, .ref 13], σ)).trans rfl
set_option maxRecDepth 20000 in
theorem q_305_3318 (G : Nat × (Nat → Int32)) (d : Nat) (x1 : Int32) (s0 : Int32) (σ : aH) : Lq G d M_305 (18, [some (.ref 0), some (.int x1)], [.int s0], σ) = Lq G d M_305 (20, [some (.ref 0), some (.int x1)], [.int (-2 : Int32), .int s0], σ) :=
  (aUn_eq (tkd G.1 G.2) tmi (aRun (tkd G.1 G.2) tmi tmt d) M_305 [] 1 (18, [some (.ref 0), some (.int x1)], [.int s0], σ)).trans rfl
set_option maxRecDepth 20000 in
theorem q_305_3319 (G : Nat × (Nat → Int32)) (d : Nat) (x1 : Int32) (s0 : Int32) (s1 : Int32) (σ : aH) : Lq G d M_305 (20, [some (.ref 0), some (.int x1)], [.int s0, .int s1], σ) = if s0 < s1 then Lq G d M_305 (27, [some (.ref 0), some (.int x1)], [], σ) else Lq G d M_305 (23, [some (.ref 0), some (.int x1)], [], σ) :=
  (aUn_eq (tkd G.1 G.2) tmi (aRun (tkd G.1 G.2) tmi tmt d) M_305 [] 1 (20, [some (.ref 0), some (.int x1)], [.int s0, .int s1], σ)).trans rfl
set_option maxRecDepth 20000 in
theorem q_305_3320 (G : Nat × (Nat → Int32)) (d : Nat) (x1 : Int32) (σ : aH) : Lq G d M_305 (23, [some (.ref 0), some (.int x1)], [], σ) = Lq G d M_305 (28, [some (.ref 0), some (.int x1)], [.int (1 : Int32)], σ) :=
  (aUn_eq (tkd G.1 G.2) tmi (aRun (tkd G.1 G.2) tmi tmt d) M_305 [] 2 (23, [some (.ref 0), some (.int x1)], [], σ)).trans rfl
set_option maxRecDepth 20000 in
theorem q_308_3321 (G : Nat × (Nat → Int32)) (d : Nat)  (σ : aH) : Lq G d M_308 (0, [some (.ref 15), some (.ref 13)], [], σ) = Lq G d M_308 (24, [some (.ref 15), some (.ref 13)], [], (aSI (aCp σ 14 16 1080) 15 1 (((aCp σ 14 16 1080)).1 13 1))) :=
  (aUn_eq (tkd G.1 G.2) tmi (aRun (tkd G.1 G.2) tmi tmt d) M_308 [] 12 (0, [some (.ref 15), some (.ref 13)], [], σ)).trans rfl
set_option maxRecDepth 20000 in
theorem q_308_3322 (G : Nat × (Nat → Int32)) (d : Nat)  (σ : aH) : Lq G d M_308 (24, [some (.ref 15), some (.ref 13)], [], σ) = some (.inl none, σ) :=
  (aUn_eq (tkd G.1 G.2) tmi (aRun (tkd G.1 G.2) tmi tmt d) M_308 [] 1 (24, [some (.ref 15), some (.ref 13)], [], σ)).trans rfl
set_option maxRecDepth 20000 in
theorem q_308_3323 (G : Nat × (Nat → Int32)) (d : Nat)  (σ : aH) : Lq G d M_308 (0, [some (.ref 13), some (.ref 15)], [], σ) = Lq G d M_308 (24, [some (.ref 13), some (.ref 15)], [], (aSI (aCp σ 16 14 1080) 13 1 (((aCp σ 16 14 1080)).1 15 1))) :=
  (aUn_eq (tkd G.1 G.2) tmi (aRun (tkd G.1 G.2) tmi tmt d) M_308 [] 12 (0, [some (.ref 13), some (.ref 15)], [], σ)).trans rfl
set_option maxRecDepth 20000 in
theorem q_308_3324 (G : Nat × (Nat → Int32)) (d : Nat)  (σ : aH) : Lq G d M_308 (24, [some (.ref 13), some (.ref 15)], [], σ) = some (.inl none, σ) :=
  (aUn_eq (tkd G.1 G.2) tmi (aRun (tkd G.1 G.2) tmi tmt d) M_308 [] 1 (24, [some (.ref 13), some (.ref 15)], [], σ)).trans rfl
set_option maxRecDepth 20000 in
theorem q_8_3325 (G : Nat × (Nat → Int32)) (d : Nat)  (σ : aH) : Lq G d M_8 (0, [some (.ref 1), none], [], σ) = Lq G d M_8 (4, [some (.ref 1), none], [.int (σ.1 1 2)], σ) :=
  (aUn_eq (tkd G.1 G.2) tmi (aRun (tkd G.1 G.2) tmi tmt d) M_8 [] 2 (0, [some (.ref 1), none], [], σ)).trans rfl
set_option maxRecDepth 20000 in
theorem q_8_3326 (G : Nat × (Nat → Int32)) (d : Nat) (s0 : Int32) (σ : aH) : Lq G d M_8 (4, [some (.ref 1), none], [.int s0], σ) = if s0 = 0 then Lq G d M_8 (8, [some (.ref 1), none], [], σ) else Lq G d M_8 (7, [some (.ref 1), none], [], σ) :=
  (aUn_eq (tkd G.1 G.2) tmi (aRun (tkd G.1 G.2) tmi tmt d) M_8 [] 1 (4, [some (.ref 1), none], [.int s0], σ)).trans rfl
set_option maxRecDepth 20000 in
theorem q_8_3327 (G : Nat × (Nat → Int32)) (d : Nat)  (σ : aH) : Lq G d M_8 (8, [some (.ref 1), none], [], σ) = Lq G d M_8 (13, [some (.ref 1), some (.int (σ.1 1 7))], [], σ) :=
  (aUn_eq (tkd G.1 G.2) tmi (aRun (tkd G.1 G.2) tmi tmt d) M_8 [] 3 (8, [some (.ref 1), none], [], σ)).trans rfl
set_option maxRecDepth 20000 in
theorem q_8_3328 (G : Nat × (Nat → Int32)) (d : Nat)  (σ : aH) : Lq G d M_8 (7, [some (.ref 1), none], [], σ) = some (.inl none, σ) :=
  (aUn_eq (tkd G.1 G.2) tmi (aRun (tkd G.1 G.2) tmi tmt d) M_8 [] 1 (7, [some (.ref 1), none], [], σ)).trans rfl
set_option maxRecDepth 20000 in
theorem q_8_3329 (G : Nat × (Nat → Int32)) (d : Nat) (x1 : Int32) (σ : aH) : Lq G d M_8 (13, [some (.ref 1), some (.int x1)], [], σ) = Lq G d M_8 (18, [some (.ref 1), some (.int x1)], [.int (σ.1 1 6), .int x1], σ) :=
  (aUn_eq (tkd G.1 G.2) tmi (aRun (tkd G.1 G.2) tmi tmt d) M_8 [] 3 (13, [some (.ref 1), some (.int x1)], [], σ)).trans rfl
set_option maxRecDepth 20000 in
theorem q_8_3330 (G : Nat × (Nat → Int32)) (d : Nat) (x1 : Int32) (s0 : Int32) (s1 : Int32) (σ : aH) : Lq G d M_8 (18, [some (.ref 1), some (.int x1)], [.int s0, .int s1], σ) = if s0 ≤ s1 then Lq G d M_8 (54, [some (.ref 1), some (.int x1)], [], σ) else Lq G d M_8 (21, [some (.ref 1), some (.int x1)], [], σ) :=
  (aUn_eq (tkd G.1 G.2) tmi (aRun (tkd G.1 G.2) tmi tmt d) M_8 [] 1 (18, [some (.ref 1), some (.int x1)], [.int s0, .int s1], σ)).trans rfl
set_option maxRecDepth 20000 in
theorem q_8_3331 (G : Nat × (Nat → Int32)) (d : Nat) (x1 : Int32) (σ : aH) : Lq G d M_8 (54, [some (.ref 1), some (.int x1)], [], σ) = Lq G d M_8 (67, [some (.ref 1), some (.int x1)], [.int (σ.1 1 7), .ref 1], (aSI σ 1 3 (σ.1 1 7))) :=
  (aUn_eq (tkd G.1 G.2) tmi (aRun (tkd G.1 G.2) tmi tmt d) M_8 [] 7 (54, [some (.ref 1), some (.int x1)], [], σ)).trans rfl
set_option maxRecDepth 20000 in
theorem q_8_3332 (G : Nat × (Nat → Int32)) (d : Nat) (x1 : Int32) (s0 : Int32) (σ : aH) : Lq G d M_8 (67, [some (.ref 1), some (.int x1)], [.int s0, .ref 1], σ) = aCI (Rn G d 9 [.ref 1, .int s0] σ) fun v2 σ1 => Lq G d M_8 (70, [some (.ref 1), some (.int x1)], [.int v2], σ1) :=
  (aUn_eq (tkd G.1 G.2) tmi (aRun (tkd G.1 G.2) tmi tmt d) M_8 [] 1 (67, [some (.ref 1), some (.int x1)], [.int s0, .ref 1], σ)).trans rfl
set_option maxRecDepth 20000 in
theorem q_8_3333 (G : Nat × (Nat → Int32)) (d : Nat) (x1 : Int32) (s0 : Int32) (σ : aH) : Lq G d M_8 (70, [some (.ref 1), some (.int x1)], [.int s0], σ) = Lq G d M_8 (79, [some (.ref 1), some (.int s0)], [.int (σ.1 1 6), .int (σ.1 1 3)], σ) :=
  (aUn_eq (tkd G.1 G.2) tmi (aRun (tkd G.1 G.2) tmi tmt d) M_8 [] 5 (70, [some (.ref 1), some (.int x1)], [.int s0], σ)).trans rfl
set_option maxRecDepth 20000 in
theorem q_8_3334 (G : Nat × (Nat → Int32)) (d : Nat) (x1 : Int32) (s0 : Int32) (s1 : Int32) (σ : aH) : Lq G d M_8 (79, [some (.ref 1), some (.int x1)], [.int s0, .int s1], σ) = if s1 < s0 then Lq G d M_8 (90, [some (.ref 1), some (.int x1)], [], σ) else Lq G d M_8 (82, [some (.ref 1), some (.int x1)], [], σ) :=
  (aUn_eq (tkd G.1 G.2) tmi (aRun (tkd G.1 G.2) tmi tmt d) M_8 [] 1 (79, [some (.ref 1), some (.int x1)], [.int s0, .int s1], σ)).trans rfl
set_option maxRecDepth 20000 in
theorem q_8_3335 (G : Nat × (Nat → Int32)) (d : Nat) (x1 : Int32) (σ : aH) : Lq G d M_8 (90, [some (.ref 1), some (.int x1)], [], σ) = Lq G d M_8 (93, [some (.ref 1), some (.int x1)], [.int (97 : Int32), .int x1], σ) :=
  (aUn_eq (tkd G.1 G.2) tmi (aRun (tkd G.1 G.2) tmi tmt d) M_8 [] 2 (90, [some (.ref 1), some (.int x1)], [], σ)).trans rfl
set_option maxRecDepth 20000 in
theorem q_8_3336 (G : Nat × (Nat → Int32)) (d : Nat) (x1 : Int32) (s0 : Int32) (s1 : Int32) (σ : aH) : Lq G d M_8 (93, [some (.ref 1), some (.int x1)], [.int s0, .int s1], σ) = if s1 < s0 then Lq G d M_8 (118, [some (.ref 1), some (.int x1)], [], σ) else Lq G d M_8 (96, [some (.ref 1), some (.int x1)], [], σ) :=
  (aUn_eq (tkd G.1 G.2) tmi (aRun (tkd G.1 G.2) tmi tmt d) M_8 [] 1 (93, [some (.ref 1), some (.int x1)], [.int s0, .int s1], σ)).trans rfl
set_option maxRecDepth 20000 in
theorem q_8_3337 (G : Nat × (Nat → Int32)) (d : Nat) (x1 : Int32) (σ : aH) : Lq G d M_8 (118, [some (.ref 1), some (.int x1)], [], σ) = Lq G d M_8 (121, [some (.ref 1), some (.int x1)], [.int (48 : Int32), .int x1], σ) :=
  (aUn_eq (tkd G.1 G.2) tmi (aRun (tkd G.1 G.2) tmi tmt d) M_8 [] 2 (118, [some (.ref 1), some (.int x1)], [], σ)).trans rfl
set_option maxRecDepth 20000 in
theorem q_8_3338 (G : Nat × (Nat → Int32)) (d : Nat) (x1 : Int32) (s0 : Int32) (s1 : Int32) (σ : aH) : Lq G d M_8 (121, [some (.ref 1), some (.int x1)], [.int s0, .int s1], σ) = if s1 < s0 then Lq G d M_8 (150, [some (.ref 1), some (.int x1)], [], σ) else Lq G d M_8 (124, [some (.ref 1), some (.int x1)], [], σ) :=
  (aUn_eq (tkd G.1 G.2) tmi (aRun (tkd G.1 G.2) tmi tmt d) M_8 [] 1 (121, [some (.ref 1), some (.int x1)], [.int s0, .int s1], σ)).trans rfl
set_option maxRecDepth 20000 in
theorem q_8_3339 (G : Nat × (Nat → Int32)) (d : Nat) (x1 : Int32) (σ : aH) : Lq G d M_8 (150, [some (.ref 1), some (.int x1)], [], σ) = Lq G d M_8 (155, [some (.ref 1), some (.int x1)], [.int ((x1).toUInt32 % 65536).toInt32, .ref 126, .ref 1], σ) :=
  (aUn_eq (tkd G.1 G.2) tmi (aRun (tkd G.1 G.2) tmi tmt d) M_8 [] 4 (150, [some (.ref 1), some (.int x1)], [], σ)).trans rfl
set_option maxRecDepth 20000 in
theorem q_8_3340 (G : Nat × (Nat → Int32)) (d : Nat) (x1 : Int32) (s0 : Int32) (σ : aH) : Lq G d M_8 (155, [some (.ref 1), some (.int x1)], [.int s0, .ref 126, .ref 1], σ) = aCI (Rn G d 12 [.ref 126, .int s0] σ) fun v2 σ1 => Lq G d M_8 (158, [some (.ref 1), some (.int x1)], [.int v2, .ref 1], σ1) :=
  (aUn_eq (tkd G.1 G.2) tmi (aRun (tkd G.1 G.2) tmi tmt d) M_8 [] 1 (155, [some (.ref 1), some (.int x1)], [.int s0, .ref 126, .ref 1], σ)).trans rfl
set_option maxRecDepth 20000 in
theorem q_8_3341 (G : Nat × (Nat → Int32)) (d : Nat) (x1 : Int32) (s0 : Int32) (σ : aH) : Lq G d M_8 (158, [some (.ref 1), some (.int x1)], [.int s0, .ref 1], σ) = if s0 < 0 then Lq G d M_8 (165, [some (.ref 1), some (.int x1)], [.ref 1], σ) else Lq G d M_8 (161, [some (.ref 1), some (.int x1)], [.ref 1], σ) :=
  (aUn_eq (tkd G.1 G.2) tmi (aRun (tkd G.1 G.2) tmi tmt d) M_8 [] 1 (158, [some (.ref 1), some (.int x1)], [.int s0, .ref 1], σ)).trans rfl
set_option maxRecDepth 20000 in
theorem q_8_3342 (G : Nat × (Nat → Int32)) (d : Nat) (x1 : Int32) (σ : aH) : Lq G d M_8 (165, [some (.ref 1), some (.int x1)], [.ref 1], σ) = Lq G d M_8 (179, [some (.ref 1), some (.int x1)], [], (aSI (aSI σ 1 4 (4 : Int32)) 1 7 ((σ.1 1 3) + (1 : Int32)))) :=
  (aUn_eq (tkd G.1 G.2) tmi (aRun (tkd G.1 G.2) tmi tmt d) M_8 [] 8 (165, [some (.ref 1), some (.int x1)], [.ref 1], σ)).trans rfl
set_option maxRecDepth 20000 in
theorem q_8_3343 (G : Nat × (Nat → Int32)) (d : Nat) (x1 : Int32) (σ : aH) : Lq G d M_8 (179, [some (.ref 1), some (.int x1)], [], σ) = some (.inl none, σ) :=
  (aUn_eq (tkd G.1 G.2) tmi (aRun (tkd G.1 G.2) tmi tmt d) M_8 [] 1 (179, [some (.ref 1), some (.int x1)], [], σ)).trans rfl
set_option maxRecDepth 20000 in
theorem q_8_3344 (G : Nat × (Nat → Int32)) (d : Nat) (x1 : Int32) (σ : aH) : Lq G d M_8 (161, [some (.ref 1), some (.int x1)], [.ref 1], σ) = Lq G d M_8 (179, [some (.ref 1), some (.int x1)], [], (aSI (aSI σ 1 4 (3 : Int32)) 1 7 ((σ.1 1 3) + (1 : Int32)))) :=
  (aUn_eq (tkd G.1 G.2) tmi (aRun (tkd G.1 G.2) tmi tmt d) M_8 [] 9 (161, [some (.ref 1), some (.int x1)], [.ref 1], σ)).trans rfl
set_option maxRecDepth 20000 in
theorem q_8_3345 (G : Nat × (Nat → Int32)) (d : Nat) (x1 : Int32) (σ : aH) : Lq G d M_8 (124, [some (.ref 1), some (.int x1)], [], σ) = Lq G d M_8 (127, [some (.ref 1), some (.int x1)], [.int (57 : Int32), .int x1], σ) :=
  (aUn_eq (tkd G.1 G.2) tmi (aRun (tkd G.1 G.2) tmi tmt d) M_8 [] 2 (124, [some (.ref 1), some (.int x1)], [], σ)).trans rfl
set_option maxRecDepth 20000 in
theorem q_8_3346 (G : Nat × (Nat → Int32)) (d : Nat) (x1 : Int32) (s0 : Int32) (s1 : Int32) (σ : aH) : Lq G d M_8 (127, [some (.ref 1), some (.int x1)], [.int s0, .int s1], σ) = if s0 < s1 then Lq G d M_8 (150, [some (.ref 1), some (.int x1)], [], σ) else Lq G d M_8 (130, [some (.ref 1), some (.int x1)], [], σ) :=
  (aUn_eq (tkd G.1 G.2) tmi (aRun (tkd G.1 G.2) tmi tmt d) M_8 [] 1 (127, [some (.ref 1), some (.int x1)], [.int s0, .int s1], σ)).trans rfl
set_option maxRecDepth 20000 in
theorem q_8_3347 (G : Nat × (Nat → Int32)) (d : Nat) (x1 : Int32) (σ : aH) : Lq G d M_8 (130, [some (.ref 1), some (.int x1)], [], σ) = Lq G d M_8 (140, [some (.ref 1), some (.int x1)], [.int (57 : Int32), .int (48 : Int32), .ref 1], (aSI σ 1 4 (2 : Int32))) :=
  (aUn_eq (tkd G.1 G.2) tmi (aRun (tkd G.1 G.2) tmi tmt d) M_8 [] 6 (130, [some (.ref 1), some (.int x1)], [], σ)).trans rfl
set_option maxRecDepth 20000 in
theorem q_8_3348 (G : Nat × (Nat → Int32)) (d : Nat) (x1 : Int32) (s0 : Int32) (s1 : Int32) (σ : aH) : Lq G d M_8 (140, [some (.ref 1), some (.int x1)], [.int s0, .int s1, .ref 1], σ) = aCV (Rn G d 10 [.ref 1, .int s1, .int s0] σ) fun σ1 => Lq G d M_8 (143, [some (.ref 1), some (.int x1)], [], σ1) :=
  (aUn_eq (tkd G.1 G.2) tmi (aRun (tkd G.1 G.2) tmi tmt d) M_8 [] 1 (140, [some (.ref 1), some (.int x1)], [.int s0, .int s1, .ref 1], σ)).trans rfl
set_option maxRecDepth 20000 in
theorem q_8_3349 (G : Nat × (Nat → Int32)) (d : Nat) (x1 : Int32) (σ : aH) : Lq G d M_8 (143, [some (.ref 1), some (.int x1)], [], σ) = Lq G d M_8 (144, [some (.ref 1), some (.int x1)], [.ref 1], σ) :=
  (aUn_eq (tkd G.1 G.2) tmi (aRun (tkd G.1 G.2) tmi tmt d) M_8 [] 1 (143, [some (.ref 1), some (.int x1)], [], σ)).trans rfl
set_option maxRecDepth 20000 in
theorem q_8_3350 (G : Nat × (Nat → Int32)) (d : Nat) (x1 : Int32) (σ : aH) : Lq G d M_8 (144, [some (.ref 1), some (.int x1)], [.ref 1], σ) = aCV (Rn G d 11 [.ref 1] σ) fun σ1 => Lq G d M_8 (147, [some (.ref 1), some (.int x1)], [], σ1) :=
  (aUn_eq (tkd G.1 G.2) tmi (aRun (tkd G.1 G.2) tmi tmt d) M_8 [] 1 (144, [some (.ref 1), some (.int x1)], [.ref 1], σ)).trans rfl
set_option maxRecDepth 20000 in
theorem q_8_3351 (G : Nat × (Nat → Int32)) (d : Nat) (x1 : Int32) (σ : aH) : Lq G d M_8 (147, [some (.ref 1), some (.int x1)], [], σ) = Lq G d M_8 (179, [some (.ref 1), some (.int x1)], [], σ) :=
  (aUn_eq (tkd G.1 G.2) tmi (aRun (tkd G.1 G.2) tmi tmt d) M_8 [] 1 (147, [some (.ref 1), some (.int x1)], [], σ)).trans rfl
set_option maxRecDepth 20000 in
theorem q_8_3352 (G : Nat × (Nat → Int32)) (d : Nat) (x1 : Int32) (σ : aH) : Lq G d M_8 (96, [some (.ref 1), some (.int x1)], [], σ) = Lq G d M_8 (99, [some (.ref 1), some (.int x1)], [.int (122 : Int32), .int x1], σ) :=
  (aUn_eq (tkd G.1 G.2) tmi (aRun (tkd G.1 G.2) tmi tmt d) M_8 [] 2 (96, [some (.ref 1), some (.int x1)], [], σ)).trans rfl
set_option maxRecDepth 20000 in
theorem q_8_3353 (G : Nat × (Nat → Int32)) (d : Nat) (x1 : Int32) (s0 : Int32) (s1 : Int32) (σ : aH) : Lq G d M_8 (99, [some (.ref 1), some (.int x1)], [.int s0, .int s1], σ) = if s0 < s1 then Lq G d M_8 (118, [some (.ref 1), some (.int x1)], [], σ) else Lq G d M_8 (102, [some (.ref 1), some (.int x1)], [], σ) :=
  (aUn_eq (tkd G.1 G.2) tmi (aRun (tkd G.1 G.2) tmi tmt d) M_8 [] 1 (99, [some (.ref 1), some (.int x1)], [.int s0, .int s1], σ)).trans rfl
set_option maxRecDepth 20000 in
theorem q_8_3354 (G : Nat × (Nat → Int32)) (d : Nat) (x1 : Int32) (σ : aH) : Lq G d M_8 (102, [some (.ref 1), some (.int x1)], [], σ) = Lq G d M_8 (112, [some (.ref 1), some (.int x1)], [.int (122 : Int32), .int (97 : Int32), .ref 1], (aSI σ 1 4 (1 : Int32))) :=
  (aUn_eq (tkd G.1 G.2) tmi (aRun (tkd G.1 G.2) tmi tmt d) M_8 [] 6 (102, [some (.ref 1), some (.int x1)], [], σ)).trans rfl
set_option maxRecDepth 20000 in
theorem q_8_3355 (G : Nat × (Nat → Int32)) (d : Nat) (x1 : Int32) (s0 : Int32) (s1 : Int32) (σ : aH) : Lq G d M_8 (112, [some (.ref 1), some (.int x1)], [.int s0, .int s1, .ref 1], σ) = aCV (Rn G d 10 [.ref 1, .int s1, .int s0] σ) fun σ1 => Lq G d M_8 (115, [some (.ref 1), some (.int x1)], [], σ1) :=
  (aUn_eq (tkd G.1 G.2) tmi (aRun (tkd G.1 G.2) tmi tmt d) M_8 [] 1 (112, [some (.ref 1), some (.int x1)], [.int s0, .int s1, .ref 1], σ)).trans rfl
set_option maxRecDepth 20000 in
theorem q_8_3356 (G : Nat × (Nat → Int32)) (d : Nat) (x1 : Int32) (σ : aH) : Lq G d M_8 (115, [some (.ref 1), some (.int x1)], [], σ) = Lq G d M_8 (179, [some (.ref 1), some (.int x1)], [], σ) :=
  (aUn_eq (tkd G.1 G.2) tmi (aRun (tkd G.1 G.2) tmi tmt d) M_8 [] 1 (115, [some (.ref 1), some (.int x1)], [], σ)).trans rfl
set_option maxRecDepth 20000 in
theorem q_8_3357 (G : Nat × (Nat → Int32)) (d : Nat) (x1 : Int32) (σ : aH) : Lq G d M_8 (82, [some (.ref 1), some (.int x1)], [], σ) = Lq G d M_8 (179, [some (.ref 1), some (.int x1)], [], (aSI σ 1 4 (0 : Int32))) :=
  (aUn_eq (tkd G.1 G.2) tmi (aRun (tkd G.1 G.2) tmi tmt d) M_8 [] 4 (82, [some (.ref 1), some (.int x1)], [], σ)).trans rfl
set_option maxRecDepth 20000 in
theorem q_8_3358 (G : Nat × (Nat → Int32)) (d : Nat) (x1 : Int32) (σ : aH) : Lq G d M_8 (21, [some (.ref 1), some (.int x1)], [], σ) = Lq G d M_8 (23, [some (.ref 1), some (.int x1)], [.int x1, .ref 1], σ) :=
  (aUn_eq (tkd G.1 G.2) tmi (aRun (tkd G.1 G.2) tmi tmt d) M_8 [] 2 (21, [some (.ref 1), some (.int x1)], [], σ)).trans rfl
set_option maxRecDepth 20000 in
theorem q_8_3359 (G : Nat × (Nat → Int32)) (d : Nat) (x1 : Int32) (s0 : Int32) (σ : aH) : Lq G d M_8 (23, [some (.ref 1), some (.int x1)], [.int s0, .ref 1], σ) = aCI (Rn G d 9 [.ref 1, .int s0] σ) fun v2 σ1 => Lq G d M_8 (26, [some (.ref 1), some (.int x1)], [.int v2], σ1) :=
  (aUn_eq (tkd G.1 G.2) tmi (aRun (tkd G.1 G.2) tmi tmt d) M_8 [] 1 (23, [some (.ref 1), some (.int x1)], [.int s0, .ref 1], σ)).trans rfl
set_option maxRecDepth 20000 in
theorem q_8_3360 (G : Nat × (Nat → Int32)) (d : Nat) (x1 : Int32) (s0 : Int32) (σ : aH) : Lq G d M_8 (26, [some (.ref 1), some (.int x1)], [.int s0], σ) = Lq G d M_8 (28, [some (.ref 1), some (.int x1)], [.int (32 : Int32), .int s0], σ) :=
  (aUn_eq (tkd G.1 G.2) tmi (aRun (tkd G.1 G.2) tmi tmt d) M_8 [] 1 (26, [some (.ref 1), some (.int x1)], [.int s0], σ)).trans rfl
set_option maxRecDepth 20000 in
theorem q_8_3361 (G : Nat × (Nat → Int32)) (d : Nat) (x1 : Int32) (s0 : Int32) (s1 : Int32) (σ : aH) : Lq G d M_8 (28, [some (.ref 1), some (.int x1)], [.int s0, .int s1], σ) = if s1 = s0 then Lq G d M_8 (41, [some (.ref 1), some (.int x1)], [], σ) else Lq G d M_8 (31, [some (.ref 1), some (.int x1)], [], σ) :=
  (aUn_eq (tkd G.1 G.2) tmi (aRun (tkd G.1 G.2) tmi tmt d) M_8 [] 1 (28, [some (.ref 1), some (.int x1)], [.int s0, .int s1], σ)).trans rfl
set_option maxRecDepth 20000 in
theorem q_8_3362 (G : Nat × (Nat → Int32)) (d : Nat) (x1 : Int32) (σ : aH) : Lq G d M_8 (41, [some (.ref 1), some (.int x1)], [], σ) = Lq G d M_8 (13, [some (.ref 1), some (.int (x1 + (1 : Int32)))], [], (aSI σ 1 7 (x1 + (1 : Int32)))) :=
  (aUn_eq (tkd G.1 G.2) tmi (aRun (tkd G.1 G.2) tmi tmt d) M_8 [] 7 (41, [some (.ref 1), some (.int x1)], [], σ)).trans rfl
set_option maxRecDepth 20000 in
theorem q_8_3363 (G : Nat × (Nat → Int32)) (d : Nat) (x1 : Int32) (σ : aH) : Lq G d M_8 (31, [some (.ref 1), some (.int x1)], [], σ) = Lq G d M_8 (33, [some (.ref 1), some (.int x1)], [.int x1, .ref 1], σ) :=
  (aUn_eq (tkd G.1 G.2) tmi (aRun (tkd G.1 G.2) tmi tmt d) M_8 [] 2 (31, [some (.ref 1), some (.int x1)], [], σ)).trans rfl
set_option maxRecDepth 20000 in
theorem q_8_3364 (G : Nat × (Nat → Int32)) (d : Nat) (x1 : Int32) (s0 : Int32) (σ : aH) : Lq G d M_8 (33, [some (.ref 1), some (.int x1)], [.int s0, .ref 1], σ) = aCI (Rn G d 9 [.ref 1, .int s0] σ) fun v2 σ1 => Lq G d M_8 (36, [some (.ref 1), some (.int x1)], [.int v2], σ1) :=
  (aUn_eq (tkd G.1 G.2) tmi (aRun (tkd G.1 G.2) tmi tmt d) M_8 [] 1 (33, [some (.ref 1), some (.int x1)], [.int s0, .ref 1], σ)).trans rfl
set_option maxRecDepth 20000 in
theorem q_8_3365 (G : Nat × (Nat → Int32)) (d : Nat) (x1 : Int32) (s0 : Int32) (σ : aH) : Lq G d M_8 (36, [some (.ref 1), some (.int x1)], [.int s0], σ) = Lq G d M_8 (38, [some (.ref 1), some (.int x1)], [.int (10 : Int32), .int s0], σ) :=
  (aUn_eq (tkd G.1 G.2) tmi (aRun (tkd G.1 G.2) tmi tmt d) M_8 [] 1 (36, [some (.ref 1), some (.int x1)], [.int s0], σ)).trans rfl
set_option maxRecDepth 20000 in
theorem q_8_3366 (G : Nat × (Nat → Int32)) (d : Nat) (x1 : Int32) (s0 : Int32) (s1 : Int32) (σ : aH) : Lq G d M_8 (38, [some (.ref 1), some (.int x1)], [.int s0, .int s1], σ) = if s1 = s0 then Lq G d M_8 (41, [some (.ref 1), some (.int x1)], [], σ) else Lq G d M_8 (54, [some (.ref 1), some (.int x1)], [], σ) :=
  (aUn_eq (tkd G.1 G.2) tmi (aRun (tkd G.1 G.2) tmi tmt d) M_8 [] 1 (38, [some (.ref 1), some (.int x1)], [.int s0, .int s1], σ)).trans rfl
set_option maxRecDepth 20000 in
theorem q_23_3367 (G : Nat × (Nat → Int32)) (d : Nat)  (σ : aH) : Lq G d M_23 (0, [some (.ref 7), none], [], σ) = Lq G d M_23 (2, [some (.ref 7), some (.int (0 : Int32))], [], σ) :=
  (aUn_eq (tkd G.1 G.2) tmi (aRun (tkd G.1 G.2) tmi tmt d) M_23 [] 2 (0, [some (.ref 7), none], [], σ)).trans rfl
set_option maxRecDepth 20000 in
theorem q_23_3368 (G : Nat × (Nat → Int32)) (d : Nat) (x1 : Int32) (σ : aH) : Lq G d M_23 (2, [some (.ref 7), some (.int x1)], [], σ) = Lq G d M_23 (4, [some (.ref 7), some (.int x1)], [.int (5 : Int32), .int x1], σ) :=
  (aUn_eq (tkd G.1 G.2) tmi (aRun (tkd G.1 G.2) tmi tmt d) M_23 [] 2 (2, [some (.ref 7), some (.int x1)], [], σ)).trans rfl
set_option maxRecDepth 20000 in
theorem q_23_3369 (G : Nat × (Nat → Int32)) (d : Nat) (x1 : Int32) (s0 : Int32) (s1 : Int32) (σ : aH) : Lq G d M_23 (4, [some (.ref 7), some (.int x1)], [.int s0, .int s1], σ) = if s0 ≤ s1 then Lq G d M_23 (22, [some (.ref 7), some (.int x1)], [], σ) else Lq G d M_23 (7, [some (.ref 7), some (.int x1)], [], σ) :=
  (aUn_eq (tkd G.1 G.2) tmi (aRun (tkd G.1 G.2) tmi tmt d) M_23 [] 1 (4, [some (.ref 7), some (.int x1)], [.int s0, .int s1], σ)).trans rfl
set_option maxRecDepth 20000 in
theorem q_23_3370 (G : Nat × (Nat → Int32)) (d : Nat) (x1 : Int32) (σ : aH) : Lq G d M_23 (22, [some (.ref 7), some (.int x1)], [], σ) = Lq G d M_23 (27, [some (.ref 7), some (.int x1)], [], (aSI σ 7 3 (0 : Int32))) :=
  (aUn_eq (tkd G.1 G.2) tmi (aRun (tkd G.1 G.2) tmi tmt d) M_23 [] 3 (22, [some (.ref 7), some (.int x1)], [], σ)).trans rfl
set_option maxRecDepth 20000 in
theorem q_23_3371 (G : Nat × (Nat → Int32)) (d : Nat) (x1 : Int32) (σ : aH) : Lq G d M_23 (27, [some (.ref 7), some (.int x1)], [], σ) = some (.inl none, σ) :=
  (aUn_eq (tkd G.1 G.2) tmi (aRun (tkd G.1 G.2) tmi tmt d) M_23 [] 1 (27, [some (.ref 7), some (.int x1)], [], σ)).trans rfl
set_option maxRecDepth 20000 in
theorem q_23_3372 (G : Nat × (Nat → Int32)) (d : Nat) (x1 : Int32) (σ : aH) : Lq G d M_23 (7, [some (.ref 7), some (.int x1)], [], σ) = Lq G d M_23 (13, [some (.ref 7), some (.int x1)], [.int (0 : Int32), .int x1, .ref 8], σ) :=
  (aUn_eq (tkd G.1 G.2) tmi (aRun (tkd G.1 G.2) tmi tmt d) M_23 [] 4 (7, [some (.ref 7), some (.int x1)], [], σ)).trans rfl
set_option maxRecDepth 20000 in
theorem q_23_3373 (G : Nat × (Nat → Int32)) (d : Nat) (x1 : Int32) (s0 : Int32) (s1 : Int32) (σ : aH) : Lq G d M_23 (13, [some (.ref 7), some (.int x1)], [.int s0, .int s1, .ref 8], σ) = aCV (Rn G d 24 [.ref 8, .int s1, .int s0] σ) fun σ1 => Lq G d M_23 (16, [some (.ref 7), some (.int x1)], [], σ1) :=
  (aUn_eq (tkd G.1 G.2) tmi (aRun (tkd G.1 G.2) tmi tmt d) M_23 [] 1 (13, [some (.ref 7), some (.int x1)], [.int s0, .int s1, .ref 8], σ)).trans rfl
set_option maxRecDepth 20000 in
theorem q_23_3374 (G : Nat × (Nat → Int32)) (d : Nat) (x1 : Int32) (σ : aH) : Lq G d M_23 (16, [some (.ref 7), some (.int x1)], [], σ) = Lq G d M_23 (2, [some (.ref 7), some (.int (x1 + (1 : Int32)))], [], σ) :=
  (aUn_eq (tkd G.1 G.2) tmi (aRun (tkd G.1 G.2) tmi tmt d) M_23 [] 2 (16, [some (.ref 7), some (.int x1)], [], σ)).trans rfl
set_option maxRecDepth 20000 in
theorem q_25_3375 (G : Nat × (Nat → Int32)) (d : Nat) (rx1 : Nat) (σ : aH) : Lq G d M_25 (0, [some (.ref 1), some (.ref rx1), none, none, none, none], [], σ) = Lq G d M_25 (7, [some (.ref 1), some (.ref rx1), some (.int (0 : Int32)), some (.int (σ.1 1 3)), none, none], [], σ) :=
  (aUn_eq (tkd G.1 G.2) tmi (aRun (tkd G.1 G.2) tmi tmt d) M_25 [] 5 (0, [some (.ref 1), some (.ref rx1), none, none, none, none], [], σ)).trans rfl
set_option maxRecDepth 20000 in
theorem q_25_3376 (G : Nat × (Nat → Int32)) (d : Nat) (rx1 : Nat) (x2 : Int32) (x3 : Int32) (σ : aH) : Lq G d M_25 (7, [some (.ref 1), some (.ref rx1), some (.int x2), some (.int x3), none, none], [], σ) = Lq G d M_25 (12, [some (.ref 1), some (.ref rx1), some (.int x2), some (.int x3), none, none], [.int (1 : Int32), .int (σ.1 1 4)], σ) :=
  (aUn_eq (tkd G.1 G.2) tmi (aRun (tkd G.1 G.2) tmi tmt d) M_25 [] 3 (7, [some (.ref 1), some (.ref rx1), some (.int x2), some (.int x3), none, none], [], σ)).trans rfl
set_option maxRecDepth 20000 in
theorem q_25_3377 (G : Nat × (Nat → Int32)) (d : Nat) (rx1 : Nat) (x2 : Int32) (x3 : Int32) (s0 : Int32) (s1 : Int32) (σ : aH) : Lq G d M_25 (12, [some (.ref 1), some (.ref rx1), some (.int x2), some (.int x3), none, none], [.int s0, .int s1], σ) = if s1 = s0 then Lq G d M_25 (15, [some (.ref 1), some (.ref rx1), some (.int x2), some (.int x3), none, none], [], σ) else Lq G d M_25 (19, [some (.ref 1), some (.ref rx1), some (.int x2), some (.int x3), none, none], [], σ) :=
  (aUn_eq (tkd G.1 G.2) tmi (aRun (tkd G.1 G.2) tmi tmt d) M_25 [] 1 (12, [some (.ref 1), some (.ref rx1), some (.int x2), some (.int x3), none, none], [.int s0, .int s1], σ)).trans rfl
set_option maxRecDepth 20000 in
theorem q_25_3378 (G : Nat × (Nat → Int32)) (d : Nat) (rx1 : Nat) (x2 : Int32) (x3 : Int32) (σ : aH) : Lq G d M_25 (15, [some (.ref 1), some (.ref rx1), some (.int x2), some (.int x3), none, none], [], σ) = Lq G d M_25 (25, [some (.ref 1), some (.ref rx1), some (.int x2), some (.int x3), some (.int (1 : Int32)), some (.int (0 : Int32))], [], σ) :=
  (aUn_eq (tkd G.1 G.2) tmi (aRun (tkd G.1 G.2) tmi tmt d) M_25 [] 5 (15, [some (.ref 1), some (.ref rx1), some (.int x2), some (.int x3), none, none], [], σ)).trans rfl
set_option maxRecDepth 20000 in
theorem q_25_3379 (G : Nat × (Nat → Int32)) (d : Nat) (rx1 : Nat) (x2 : Int32) (x3 : Int32) (σ : aH) : Lq G d M_25 (19, [some (.ref 1), some (.ref rx1), some (.int x2), some (.int x3), none, none], [], σ) = Lq G d M_25 (25, [some (.ref 1), some (.ref rx1), some (.int x2), some (.int x3), some (.int (0 : Int32)), some (.int (0 : Int32))], [], σ) :=
  (aUn_eq (tkd G.1 G.2) tmi (aRun (tkd G.1 G.2) tmi tmt d) M_25 [] 4 (19, [some (.ref 1), some (.ref rx1), some (.int x2), some (.int x3), none, none], [], σ)).trans rfl
set_option maxRecDepth 20000 in
theorem q_25_3380 (G : Nat × (Nat → Int32)) (d : Nat) (rx1 : Nat) (x2 : Int32) (x3 : Int32) (x4 : Int32) (x5 : Int32) (σ : aH) : Lq G d M_25 (25, [some (.ref 1), some (.ref rx1), some (.int x2), some (.int x3), some (.int x4), some (.int x5)], [], σ) = Lq G d M_25 (28, [some (.ref 1), some (.ref rx1), some (.int x2), some (.int x3), some (.int x4), some (.int x5)], [.ref rx1, .int x5], σ) :=
  (aUn_eq (tkd G.1 G.2) tmi (aRun (tkd G.1 G.2) tmi tmt d) M_25 [] 2 (25, [some (.ref 1), some (.ref rx1), some (.int x2), some (.int x3), some (.int x4), some (.int x5)], [], σ)).trans rfl
set_option maxRecDepth 20000 in
theorem q_25_3381 (G : Nat × (Nat → Int32)) (d : Nat) (rx1 : Nat) (x2 : Int32) (x3 : Int32) (x4 : Int32) (x5 : Int32) (rs0 : Nat) (s1 : Int32) (σ : aH) : Lq G d M_25 (28, [some (.ref 1), some (.ref rx1), some (.int x2), some (.int x3), some (.int x4), some (.int x5)], [.ref rs0, .int s1], σ) = aGd (tkd G.1 G.2) (some 20) [.ref rs0] (aCI (Rn G d 15 [.ref rs0] σ) fun v2 σ1 => Lq G d M_25 (31, [some (.ref 1), some (.ref rx1), some (.int x2), some (.int x3), some (.int x4), some (.int x5)], [.int v2, .int s1], σ1)) :=
  (aUn_eq (tkd G.1 G.2) tmi (aRun (tkd G.1 G.2) tmi tmt d) M_25 [] 1 (28, [some (.ref 1), some (.ref rx1), some (.int x2), some (.int x3), some (.int x4), some (.int x5)], [.ref rs0, .int s1], σ)).trans rfl
set_option maxRecDepth 20000 in
theorem q_25_3382 (G : Nat × (Nat → Int32)) (d : Nat) (rx1 : Nat) (x2 : Int32) (x3 : Int32) (x4 : Int32) (x5 : Int32) (s0 : Int32) (s1 : Int32) (σ : aH) : Lq G d M_25 (31, [some (.ref 1), some (.ref rx1), some (.int x2), some (.int x3), some (.int x4), some (.int x5)], [.int s0, .int s1], σ) = if s0 < s1 then Lq G d M_25 (138, [some (.ref 1), some (.ref rx1), some (.int x2), some (.int x3), some (.int x4), some (.int x5)], [], σ) else Lq G d M_25 (34, [some (.ref 1), some (.ref rx1), some (.int x2), some (.int x3), some (.int x4), some (.int x5)], [], σ) :=
  (aUn_eq (tkd G.1 G.2) tmi (aRun (tkd G.1 G.2) tmi tmt d) M_25 [] 1 (31, [some (.ref 1), some (.ref rx1), some (.int x2), some (.int x3), some (.int x4), some (.int x5)], [.int s0, .int s1], σ)).trans rfl
set_option maxRecDepth 20000 in
theorem q_25_3383 (G : Nat × (Nat → Int32)) (d : Nat) (rx1 : Nat) (x2 : Int32) (x3 : Int32) (x4 : Int32) (x5 : Int32) (σ : aH) : Lq G d M_25 (138, [some (.ref 1), some (.ref rx1), some (.int x2), some (.int x3), some (.int x4), some (.int x5)], [], σ) = Lq G d M_25 (139, [some (.ref 1), some (.ref rx1), some (.int x2), some (.int x3), some (.int x4), some (.int x5)], [.int (-1 : Int32)], σ) :=
  (aUn_eq (tkd G.1 G.2) tmi (aRun (tkd G.1 G.2) tmi tmt d) M_25 [] 1 (138, [some (.ref 1), some (.ref rx1), some (.int x2), some (.int x3), some (.int x4), some (.int x5)], [], σ)).trans rfl
set_option maxRecDepth 20000 in
theorem q_25_3384 (G : Nat × (Nat → Int32)) (d : Nat) (rx1 : Nat) (x2 : Int32) (x3 : Int32) (x4 : Int32) (x5 : Int32) (s0 : Int32) (σ : aH) : Lq G d M_25 (139, [some (.ref 1), some (.ref rx1), some (.int x2), some (.int x3), some (.int x4), some (.int x5)], [.int s0], σ) = some (.inl (some (.int s0)), σ) :=
  (aUn_eq (tkd G.1 G.2) tmi (aRun (tkd G.1 G.2) tmi tmt d) M_25 [] 1 (139, [some (.ref 1), some (.ref rx1), some (.int x2), some (.int x3), some (.int x4), some (.int x5)], [.int s0], σ)).trans rfl
set_option maxRecDepth 20000 in
theorem q_25_3385 (G : Nat × (Nat → Int32)) (d : Nat) (rx1 : Nat) (x2 : Int32) (x3 : Int32) (x4 : Int32) (x5 : Int32) (σ : aH) : Lq G d M_25 (34, [some (.ref 1), some (.ref rx1), some (.int x2), some (.int x3), some (.int x4), some (.int x5)], [], σ) = Lq G d M_25 (37, [some (.ref 1), some (.ref rx1), some (.int x2), some (.int x3), some (.int x4), some (.int x5)], [.ref rx1, .int x5], σ) :=
  (aUn_eq (tkd G.1 G.2) tmi (aRun (tkd G.1 G.2) tmi tmt d) M_25 [] 2 (34, [some (.ref 1), some (.ref rx1), some (.int x2), some (.int x3), some (.int x4), some (.int x5)], [], σ)).trans rfl
set_option maxRecDepth 20000 in
theorem q_25_3386 (G : Nat × (Nat → Int32)) (d : Nat) (rx1 : Nat) (x2 : Int32) (x3 : Int32) (x4 : Int32) (x5 : Int32) (rs0 : Nat) (s1 : Int32) (σ : aH) : Lq G d M_25 (37, [some (.ref 1), some (.ref rx1), some (.int x2), some (.int x3), some (.int x4), some (.int x5)], [.ref rs0, .int s1], σ) = aGd (tkd G.1 G.2) (some 20) [.ref rs0] (aCI (Rn G d 15 [.ref rs0] σ) fun v2 σ1 => Lq G d M_25 (40, [some (.ref 1), some (.ref rx1), some (.int x2), some (.int x3), some (.int x4), some (.int x5)], [.int v2, .int s1], σ1)) :=
  (aUn_eq (tkd G.1 G.2) tmi (aRun (tkd G.1 G.2) tmi tmt d) M_25 [] 1 (37, [some (.ref 1), some (.ref rx1), some (.int x2), some (.int x3), some (.int x4), some (.int x5)], [.ref rs0, .int s1], σ)).trans rfl
set_option maxRecDepth 20000 in
theorem q_25_3387 (G : Nat × (Nat → Int32)) (d : Nat) (rx1 : Nat) (x2 : Int32) (x3 : Int32) (x4 : Int32) (x5 : Int32) (s0 : Int32) (s1 : Int32) (σ : aH) : Lq G d M_25 (40, [some (.ref 1), some (.ref rx1), some (.int x2), some (.int x3), some (.int x4), some (.int x5)], [.int s0, .int s1], σ) = if s0 ≤ s1 then Lq G d M_25 (94, [some (.ref 1), some (.ref rx1), some (.int x2), some (.int x3), some (.int x4), some (.int x5)], [], σ) else Lq G d M_25 (43, [some (.ref 1), some (.ref rx1), some (.int x2), some (.int x3), some (.int x4), some (.int x5)], [], σ) :=
  (aUn_eq (tkd G.1 G.2) tmi (aRun (tkd G.1 G.2) tmi tmt d) M_25 [] 1 (40, [some (.ref 1), some (.ref rx1), some (.int x2), some (.int x3), some (.int x4), some (.int x5)], [.int s0, .int s1], σ)).trans rfl
set_option maxRecDepth 20000 in
theorem q_25_3388 (G : Nat × (Nat → Int32)) (d : Nat) (rx1 : Nat) (x2 : Int32) (x3 : Int32) (x4 : Int32) (x5 : Int32) (σ : aH) : Lq G d M_25 (94, [some (.ref 1), some (.ref rx1), some (.int x2), some (.int x3), some (.int x4), some (.int x5)], [], σ) = Lq G d M_25 (96, [some (.ref 1), some (.ref rx1), some (.int x2), some (.int x3), some (.int x4), some (.int x5)], [.int x4], σ) :=
  (aUn_eq (tkd G.1 G.2) tmi (aRun (tkd G.1 G.2) tmi tmt d) M_25 [] 1 (94, [some (.ref 1), some (.ref rx1), some (.int x2), some (.int x3), some (.int x4), some (.int x5)], [], σ)).trans rfl
set_option maxRecDepth 20000 in
theorem q_25_3389 (G : Nat × (Nat → Int32)) (d : Nat) (rx1 : Nat) (x2 : Int32) (x3 : Int32) (x4 : Int32) (x5 : Int32) (s0 : Int32) (σ : aH) : Lq G d M_25 (96, [some (.ref 1), some (.ref rx1), some (.int x2), some (.int x3), some (.int x4), some (.int x5)], [.int s0], σ) = if s0 = 0 then Lq G d M_25 (109, [some (.ref 1), some (.ref rx1), some (.int x2), some (.int x3), some (.int x4), some (.int x5)], [], σ) else Lq G d M_25 (99, [some (.ref 1), some (.ref rx1), some (.int x2), some (.int x3), some (.int x4), some (.int x5)], [], σ) :=
  (aUn_eq (tkd G.1 G.2) tmi (aRun (tkd G.1 G.2) tmi tmt d) M_25 [] 1 (96, [some (.ref 1), some (.ref rx1), some (.int x2), some (.int x3), some (.int x4), some (.int x5)], [.int s0], σ)).trans rfl
set_option maxRecDepth 20000 in
theorem q_25_3390 (G : Nat × (Nat → Int32)) (d : Nat) (rx1 : Nat) (x2 : Int32) (x3 : Int32) (x4 : Int32) (x5 : Int32) (σ : aH) : Lq G d M_25 (109, [some (.ref 1), some (.ref rx1), some (.int x2), some (.int x3), some (.int x4), some (.int x5)], [], σ) = Lq G d M_25 (117, [some (.ref 1), some (.ref rx1), some (.int (x2 + (1 : Int32))), some (.int (σ.1 1 3)), some (.int x4), some (.int x5)], [], σ) :=
  (aUn_eq (tkd G.1 G.2) tmi (aRun (tkd G.1 G.2) tmi tmt d) M_25 [] 4 (109, [some (.ref 1), some (.ref rx1), some (.int x2), some (.int x3), some (.int x4), some (.int x5)], [], σ)).trans rfl
set_option maxRecDepth 20000 in
theorem q_25_3391 (G : Nat × (Nat → Int32)) (d : Nat) (rx1 : Nat) (x2 : Int32) (x3 : Int32) (x4 : Int32) (x5 : Int32) (σ : aH) : Lq G d M_25 (117, [some (.ref 1), some (.ref rx1), some (.int x2), some (.int x3), some (.int x4), some (.int x5)], [], σ) = Lq G d M_25 (122, [some (.ref 1), some (.ref rx1), some (.int x2), some (.int x3), some (.int x4), some (.int x5)], [.int (1 : Int32), .int (σ.1 1 4)], σ) :=
  (aUn_eq (tkd G.1 G.2) tmi (aRun (tkd G.1 G.2) tmi tmt d) M_25 [] 3 (117, [some (.ref 1), some (.ref rx1), some (.int x2), some (.int x3), some (.int x4), some (.int x5)], [], σ)).trans rfl
set_option maxRecDepth 20000 in
theorem q_25_3392 (G : Nat × (Nat → Int32)) (d : Nat) (rx1 : Nat) (x2 : Int32) (x3 : Int32) (x4 : Int32) (x5 : Int32) (s0 : Int32) (s1 : Int32) (σ : aH) : Lq G d M_25 (122, [some (.ref 1), some (.ref rx1), some (.int x2), some (.int x3), some (.int x4), some (.int x5)], [.int s0, .int s1], σ) = if s1 = s0 then Lq G d M_25 (125, [some (.ref 1), some (.ref rx1), some (.int x2), some (.int x3), some (.int x4), some (.int x5)], [], σ) else Lq G d M_25 (129, [some (.ref 1), some (.ref rx1), some (.int x2), some (.int x3), some (.int x4), some (.int x5)], [], σ) :=
  (aUn_eq (tkd G.1 G.2) tmi (aRun (tkd G.1 G.2) tmi tmt d) M_25 [] 1 (122, [some (.ref 1), some (.ref rx1), some (.int x2), some (.int x3), some (.int x4), some (.int x5)], [.int s0, .int s1], σ)).trans rfl
set_option maxRecDepth 20000 in
theorem q_25_3393 (G : Nat × (Nat → Int32)) (d : Nat) (rx1 : Nat) (x2 : Int32) (x3 : Int32) (x4 : Int32) (x5 : Int32) (σ : aH) : Lq G d M_25 (125, [some (.ref 1), some (.ref rx1), some (.int x2), some (.int x3), some (.int x4), some (.int x5)], [], σ) = Lq G d M_25 (135, [some (.ref 1), some (.ref rx1), some (.int x2), some (.int x3), some (.int (1 : Int32)), some (.int (x5 + (1 : Int32)))], [], σ) :=
  (aUn_eq (tkd G.1 G.2) tmi (aRun (tkd G.1 G.2) tmi tmt d) M_25 [] 4 (125, [some (.ref 1), some (.ref rx1), some (.int x2), some (.int x3), some (.int x4), some (.int x5)], [], σ)).trans rfl
set_option maxRecDepth 20000 in
theorem q_25_3394 (G : Nat × (Nat → Int32)) (d : Nat) (rx1 : Nat) (x2 : Int32) (x3 : Int32) (x4 : Int32) (x5 : Int32) (σ : aH) : Lq G d M_25 (135, [some (.ref 1), some (.ref rx1), some (.int x2), some (.int x3), some (.int x4), some (.int x5)], [], σ) = Lq G d M_25 (25, [some (.ref 1), some (.ref rx1), some (.int x2), some (.int x3), some (.int x4), some (.int x5)], [], σ) :=
  (aUn_eq (tkd G.1 G.2) tmi (aRun (tkd G.1 G.2) tmi tmt d) M_25 [] 1 (135, [some (.ref 1), some (.ref rx1), some (.int x2), some (.int x3), some (.int x4), some (.int x5)], [], σ)).trans rfl
set_option maxRecDepth 20000 in
theorem q_25_3395 (G : Nat × (Nat → Int32)) (d : Nat) (rx1 : Nat) (x2 : Int32) (x3 : Int32) (x4 : Int32) (x5 : Int32) (σ : aH) : Lq G d M_25 (129, [some (.ref 1), some (.ref rx1), some (.int x2), some (.int x3), some (.int x4), some (.int x5)], [], σ) = Lq G d M_25 (135, [some (.ref 1), some (.ref rx1), some (.int x2), some (.int x3), some (.int (0 : Int32)), some (.int (x5 + (1 : Int32)))], [], σ) :=
  (aUn_eq (tkd G.1 G.2) tmi (aRun (tkd G.1 G.2) tmi tmt d) M_25 [] 3 (129, [some (.ref 1), some (.ref rx1), some (.int x2), some (.int x3), some (.int x4), some (.int x5)], [], σ)).trans rfl
set_option maxRecDepth 20000 in
theorem q_25_3396 (G : Nat × (Nat → Int32)) (d : Nat) (rx1 : Nat) (x2 : Int32) (x3 : Int32) (x4 : Int32) (x5 : Int32) (σ : aH) : Lq G d M_25 (99, [some (.ref 1), some (.ref rx1), some (.int x2), some (.int x3), some (.int x4), some (.int x5)], [], σ) = Lq G d M_25 (104, [some (.ref 1), some (.ref rx1), some (.int x2), some (.int x3), some (.int x4), some (.int x5)], [.int (σ.1 1 7), .int x3], σ) :=
  (aUn_eq (tkd G.1 G.2) tmi (aRun (tkd G.1 G.2) tmi tmt d) M_25 [] 3 (99, [some (.ref 1), some (.ref rx1), some (.int x2), some (.int x3), some (.int x4), some (.int x5)], [], σ)).trans rfl
set_option maxRecDepth 20000 in
theorem q_25_3397 (G : Nat × (Nat → Int32)) (d : Nat) (rx1 : Nat) (x2 : Int32) (x3 : Int32) (x4 : Int32) (x5 : Int32) (s0 : Int32) (s1 : Int32) (σ : aH) : Lq G d M_25 (104, [some (.ref 1), some (.ref rx1), some (.int x2), some (.int x3), some (.int x4), some (.int x5)], [.int s0, .int s1], σ) = if s1 = s0 then Lq G d M_25 (107, [some (.ref 1), some (.ref rx1), some (.int x2), some (.int x3), some (.int x4), some (.int x5)], [], σ) else Lq G d M_25 (109, [some (.ref 1), some (.ref rx1), some (.int x2), some (.int x3), some (.int x4), some (.int x5)], [], σ) :=
  (aUn_eq (tkd G.1 G.2) tmi (aRun (tkd G.1 G.2) tmi tmt d) M_25 [] 1 (104, [some (.ref 1), some (.ref rx1), some (.int x2), some (.int x3), some (.int x4), some (.int x5)], [.int s0, .int s1], σ)).trans rfl
set_option maxRecDepth 20000 in
theorem q_25_3398 (G : Nat × (Nat → Int32)) (d : Nat) (rx1 : Nat) (x2 : Int32) (x3 : Int32) (x4 : Int32) (x5 : Int32) (σ : aH) : Lq G d M_25 (107, [some (.ref 1), some (.ref rx1), some (.int x2), some (.int x3), some (.int x4), some (.int x5)], [], σ) = Lq G d M_25 (108, [some (.ref 1), some (.ref rx1), some (.int x2), some (.int x3), some (.int x4), some (.int x5)], [.int x2], σ) :=
  (aUn_eq (tkd G.1 G.2) tmi (aRun (tkd G.1 G.2) tmi tmt d) M_25 [] 1 (107, [some (.ref 1), some (.ref rx1), some (.int x2), some (.int x3), some (.int x4), some (.int x5)], [], σ)).trans rfl
set_option maxRecDepth 20000 in
theorem q_25_3399 (G : Nat × (Nat → Int32)) (d : Nat) (rx1 : Nat) (x2 : Int32) (x3 : Int32) (x4 : Int32) (x5 : Int32) (s0 : Int32) (σ : aH) : Lq G d M_25 (108, [some (.ref 1), some (.ref rx1), some (.int x2), some (.int x3), some (.int x4), some (.int x5)], [.int s0], σ) = some (.inl (some (.int s0)), σ) :=
  (aUn_eq (tkd G.1 G.2) tmi (aRun (tkd G.1 G.2) tmi tmt d) M_25 [] 1 (108, [some (.ref 1), some (.ref rx1), some (.int x2), some (.int x3), some (.int x4), some (.int x5)], [.int s0], σ)).trans rfl
set_option maxRecDepth 20000 in
theorem q_25_3400 (G : Nat × (Nat → Int32)) (d : Nat) (rx1 : Nat) (x2 : Int32) (x3 : Int32) (x4 : Int32) (x5 : Int32) (σ : aH) : Lq G d M_25 (43, [some (.ref 1), some (.ref rx1), some (.int x2), some (.int x3), some (.int x4), some (.int x5)], [], σ) = Lq G d M_25 (46, [some (.ref 1), some (.ref rx1), some (.int x2), some (.int x3), some (.int x4), some (.int x5)], [.int x5, .ref rx1], σ) :=
  (aUn_eq (tkd G.1 G.2) tmi (aRun (tkd G.1 G.2) tmi tmt d) M_25 [] 2 (43, [some (.ref 1), some (.ref rx1), some (.int x2), some (.int x3), some (.int x4), some (.int x5)], [], σ)).trans rfl
set_option maxRecDepth 20000 in
theorem q_25_3401 (G : Nat × (Nat → Int32)) (d : Nat) (rx1 : Nat) (x2 : Int32) (x3 : Int32) (x4 : Int32) (x5 : Int32) (s0 : Int32) (rs1 : Nat) (σ : aH) : Lq G d M_25 (46, [some (.ref 1), some (.ref rx1), some (.int x2), some (.int x3), some (.int x4), some (.int x5)], [.int s0, .ref rs1], σ) = aGd (tkd G.1 G.2) (some 20) [.ref rs1, .int s0] (aCI (Rn G d 26 [.ref rs1, .int s0] σ) fun v2 σ1 => Lq G d M_25 (49, [some (.ref 1), some (.ref rx1), some (.int x2), some (.int x3), some (.int x4), some (.int x5)], [.int v2], σ1)) :=
  (aUn_eq (tkd G.1 G.2) tmi (aRun (tkd G.1 G.2) tmi tmt d) M_25 [] 1 (46, [some (.ref 1), some (.ref rx1), some (.int x2), some (.int x3), some (.int x4), some (.int x5)], [.int s0, .ref rs1], σ)).trans rfl
set_option maxRecDepth 20000 in
theorem q_25_3402 (G : Nat × (Nat → Int32)) (d : Nat) (rx1 : Nat) (x2 : Int32) (x3 : Int32) (x4 : Int32) (x5 : Int32) (s0 : Int32) (σ : aH) : Lq G d M_25 (49, [some (.ref 1), some (.ref rx1), some (.int x2), some (.int x3), some (.int x4), some (.int x5)], [.int s0], σ) = Lq G d M_25 (51, [some (.ref 1), some (.ref rx1), some (.int x2), some (.int x3), some (.int x4), some (.int x5)], [.int (32 : Int32), .int s0], σ) :=
  (aUn_eq (tkd G.1 G.2) tmi (aRun (tkd G.1 G.2) tmi tmt d) M_25 [] 1 (49, [some (.ref 1), some (.ref rx1), some (.int x2), some (.int x3), some (.int x4), some (.int x5)], [.int s0], σ)).trans rfl
set_option maxRecDepth 20000 in
theorem q_25_3403 (G : Nat × (Nat → Int32)) (d : Nat) (rx1 : Nat) (x2 : Int32) (x3 : Int32) (x4 : Int32) (x5 : Int32) (s0 : Int32) (s1 : Int32) (σ : aH) : Lq G d M_25 (51, [some (.ref 1), some (.ref rx1), some (.int x2), some (.int x3), some (.int x4), some (.int x5)], [.int s0, .int s1], σ) = if s1 = s0 then Lq G d M_25 (94, [some (.ref 1), some (.ref rx1), some (.int x2), some (.int x3), some (.int x4), some (.int x5)], [], σ) else Lq G d M_25 (54, [some (.ref 1), some (.ref rx1), some (.int x2), some (.int x3), some (.int x4), some (.int x5)], [], σ) :=
  (aUn_eq (tkd G.1 G.2) tmi (aRun (tkd G.1 G.2) tmi tmt d) M_25 [] 1 (51, [some (.ref 1), some (.ref rx1), some (.int x2), some (.int x3), some (.int x4), some (.int x5)], [.int s0, .int s1], σ)).trans rfl
set_option maxRecDepth 20000 in
theorem q_25_3404 (G : Nat × (Nat → Int32)) (d : Nat) (rx1 : Nat) (x2 : Int32) (x3 : Int32) (x4 : Int32) (x5 : Int32) (σ : aH) : Lq G d M_25 (54, [some (.ref 1), some (.ref rx1), some (.int x2), some (.int x3), some (.int x4), some (.int x5)], [], σ) = Lq G d M_25 (56, [some (.ref 1), some (.ref rx1), some (.int x2), some (.int x3), some (.int x4), some (.int x5)], [.int x4], σ) :=
  (aUn_eq (tkd G.1 G.2) tmi (aRun (tkd G.1 G.2) tmi tmt d) M_25 [] 1 (54, [some (.ref 1), some (.ref rx1), some (.int x2), some (.int x3), some (.int x4), some (.int x5)], [], σ)).trans rfl
set_option maxRecDepth 20000 in
theorem q_25_3405 (G : Nat × (Nat → Int32)) (d : Nat) (rx1 : Nat) (x2 : Int32) (x3 : Int32) (x4 : Int32) (x5 : Int32) (s0 : Int32) (σ : aH) : Lq G d M_25 (56, [some (.ref 1), some (.ref rx1), some (.int x2), some (.int x3), some (.int x4), some (.int x5)], [.int s0], σ) = if s0 = 0 then Lq G d M_25 (85, [some (.ref 1), some (.ref rx1), some (.int x2), some (.int x3), some (.int x4), some (.int x5)], [], σ) else Lq G d M_25 (59, [some (.ref 1), some (.ref rx1), some (.int x2), some (.int x3), some (.int x4), some (.int x5)], [], σ) :=
  (aUn_eq (tkd G.1 G.2) tmi (aRun (tkd G.1 G.2) tmi tmt d) M_25 [] 1 (56, [some (.ref 1), some (.ref rx1), some (.int x2), some (.int x3), some (.int x4), some (.int x5)], [.int s0], σ)).trans rfl
set_option maxRecDepth 20000 in
theorem q_25_3406 (G : Nat × (Nat → Int32)) (d : Nat) (rx1 : Nat) (x2 : Int32) (x3 : Int32) (x4 : Int32) (x5 : Int32) (σ : aH) : Lq G d M_25 (85, [some (.ref 1), some (.ref rx1), some (.int x2), some (.int x3), some (.int x4), some (.int x5)], [], σ) = Lq G d M_25 (91, [some (.ref 1), some (.ref rx1), some (.int x2), some (.int (x3 + (1 : Int32))), some (.int (0 : Int32)), some (.int x5)], [], σ) :=
  (aUn_eq (tkd G.1 G.2) tmi (aRun (tkd G.1 G.2) tmi tmt d) M_25 [] 3 (85, [some (.ref 1), some (.ref rx1), some (.int x2), some (.int x3), some (.int x4), some (.int x5)], [], σ)).trans rfl
set_option maxRecDepth 20000 in
theorem q_25_3407 (G : Nat × (Nat → Int32)) (d : Nat) (rx1 : Nat) (x2 : Int32) (x3 : Int32) (x4 : Int32) (x5 : Int32) (σ : aH) : Lq G d M_25 (91, [some (.ref 1), some (.ref rx1), some (.int x2), some (.int x3), some (.int x4), some (.int x5)], [], σ) = Lq G d M_25 (25, [some (.ref 1), some (.ref rx1), some (.int x2), some (.int x3), some (.int x4), some (.int (x5 + (1 : Int32)))], [], σ) :=
  (aUn_eq (tkd G.1 G.2) tmi (aRun (tkd G.1 G.2) tmi tmt d) M_25 [] 3 (91, [some (.ref 1), some (.ref rx1), some (.int x2), some (.int x3), some (.int x4), some (.int x5)], [], σ)).trans rfl
set_option maxRecDepth 20000 in
theorem q_25_3408 (G : Nat × (Nat → Int32)) (d : Nat) (rx1 : Nat) (x2 : Int32) (x3 : Int32) (x4 : Int32) (x5 : Int32) (σ : aH) : Lq G d M_25 (59, [some (.ref 1), some (.ref rx1), some (.int x2), some (.int x3), some (.int x4), some (.int x5)], [], σ) = Lq G d M_25 (64, [some (.ref 1), some (.ref rx1), some (.int x2), some (.int x3), some (.int x4), some (.int x5)], [.int (σ.1 1 7), .int x3], σ) :=
  (aUn_eq (tkd G.1 G.2) tmi (aRun (tkd G.1 G.2) tmi tmt d) M_25 [] 3 (59, [some (.ref 1), some (.ref rx1), some (.int x2), some (.int x3), some (.int x4), some (.int x5)], [], σ)).trans rfl
set_option maxRecDepth 20000 in
theorem q_25_3409 (G : Nat × (Nat → Int32)) (d : Nat) (rx1 : Nat) (x2 : Int32) (x3 : Int32) (x4 : Int32) (x5 : Int32) (s0 : Int32) (s1 : Int32) (σ : aH) : Lq G d M_25 (64, [some (.ref 1), some (.ref rx1), some (.int x2), some (.int x3), some (.int x4), some (.int x5)], [.int s0, .int s1], σ) = if s0 ≤ s1 then Lq G d M_25 (85, [some (.ref 1), some (.ref rx1), some (.int x2), some (.int x3), some (.int x4), some (.int x5)], [], σ) else Lq G d M_25 (67, [some (.ref 1), some (.ref rx1), some (.int x2), some (.int x3), some (.int x4), some (.int x5)], [], σ) :=
  (aUn_eq (tkd G.1 G.2) tmi (aRun (tkd G.1 G.2) tmi tmt d) M_25 [] 1 (64, [some (.ref 1), some (.ref rx1), some (.int x2), some (.int x3), some (.int x4), some (.int x5)], [.int s0, .int s1], σ)).trans rfl
set_option maxRecDepth 20000 in
theorem q_25_3410 (G : Nat × (Nat → Int32)) (d : Nat) (rx1 : Nat) (x2 : Int32) (x3 : Int32) (x4 : Int32) (x5 : Int32) (σ : aH) : Lq G d M_25 (67, [some (.ref 1), some (.ref rx1), some (.int x2), some (.int x3), some (.int x4), some (.int x5)], [], σ) = Lq G d M_25 (69, [some (.ref 1), some (.ref rx1), some (.int x2), some (.int x3), some (.int x4), some (.int x5)], [.int x3, .ref 1], σ) :=
  (aUn_eq (tkd G.1 G.2) tmi (aRun (tkd G.1 G.2) tmi tmt d) M_25 [] 2 (67, [some (.ref 1), some (.ref rx1), some (.int x2), some (.int x3), some (.int x4), some (.int x5)], [], σ)).trans rfl
set_option maxRecDepth 20000 in
theorem q_25_3411 (G : Nat × (Nat → Int32)) (d : Nat) (rx1 : Nat) (x2 : Int32) (x3 : Int32) (x4 : Int32) (x5 : Int32) (s0 : Int32) (σ : aH) : Lq G d M_25 (69, [some (.ref 1), some (.ref rx1), some (.int x2), some (.int x3), some (.int x4), some (.int x5)], [.int s0, .ref 1], σ) = aCI (Rn G d 9 [.ref 1, .int s0] σ) fun v2 σ1 => Lq G d M_25 (72, [some (.ref 1), some (.ref rx1), some (.int x2), some (.int x3), some (.int x4), some (.int x5)], [.int v2], σ1) :=
  (aUn_eq (tkd G.1 G.2) tmi (aRun (tkd G.1 G.2) tmi tmt d) M_25 [] 1 (69, [some (.ref 1), some (.ref rx1), some (.int x2), some (.int x3), some (.int x4), some (.int x5)], [.int s0, .ref 1], σ)).trans rfl
set_option maxRecDepth 20000 in
theorem q_25_3412 (G : Nat × (Nat → Int32)) (d : Nat) (rx1 : Nat) (x2 : Int32) (x3 : Int32) (x4 : Int32) (x5 : Int32) (s0 : Int32) (σ : aH) : Lq G d M_25 (72, [some (.ref 1), some (.ref rx1), some (.int x2), some (.int x3), some (.int x4), some (.int x5)], [.int s0], σ) = Lq G d M_25 (75, [some (.ref 1), some (.ref rx1), some (.int x2), some (.int x3), some (.int x4), some (.int x5)], [.int x5, .ref rx1, .int s0], σ) :=
  (aUn_eq (tkd G.1 G.2) tmi (aRun (tkd G.1 G.2) tmi tmt d) M_25 [] 2 (72, [some (.ref 1), some (.ref rx1), some (.int x2), some (.int x3), some (.int x4), some (.int x5)], [.int s0], σ)).trans rfl
set_option maxRecDepth 20000 in
theorem q_25_3413 (G : Nat × (Nat → Int32)) (d : Nat) (rx1 : Nat) (x2 : Int32) (x3 : Int32) (x4 : Int32) (x5 : Int32) (s0 : Int32) (rs1 : Nat) (s2 : Int32) (σ : aH) : Lq G d M_25 (75, [some (.ref 1), some (.ref rx1), some (.int x2), some (.int x3), some (.int x4), some (.int x5)], [.int s0, .ref rs1, .int s2], σ) = aGd (tkd G.1 G.2) (some 20) [.ref rs1, .int s0] (aCI (Rn G d 26 [.ref rs1, .int s0] σ) fun v2 σ1 => Lq G d M_25 (78, [some (.ref 1), some (.ref rx1), some (.int x2), some (.int x3), some (.int x4), some (.int x5)], [.int v2, .int s2], σ1)) :=
  (aUn_eq (tkd G.1 G.2) tmi (aRun (tkd G.1 G.2) tmi tmt d) M_25 [] 1 (75, [some (.ref 1), some (.ref rx1), some (.int x2), some (.int x3), some (.int x4), some (.int x5)], [.int s0, .ref rs1, .int s2], σ)).trans rfl
set_option maxRecDepth 20000 in
theorem q_25_3414 (G : Nat × (Nat → Int32)) (d : Nat) (rx1 : Nat) (x2 : Int32) (x3 : Int32) (x4 : Int32) (x5 : Int32) (s0 : Int32) (s1 : Int32) (σ : aH) : Lq G d M_25 (78, [some (.ref 1), some (.ref rx1), some (.int x2), some (.int x3), some (.int x4), some (.int x5)], [.int s0, .int s1], σ) = if s1 = s0 then Lq G d M_25 (81, [some (.ref 1), some (.ref rx1), some (.int x2), some (.int x3), some (.int x4), some (.int x5)], [], σ) else Lq G d M_25 (85, [some (.ref 1), some (.ref rx1), some (.int x2), some (.int x3), some (.int x4), some (.int x5)], [], σ) :=
  (aUn_eq (tkd G.1 G.2) tmi (aRun (tkd G.1 G.2) tmi tmt d) M_25 [] 1 (78, [some (.ref 1), some (.ref rx1), some (.int x2), some (.int x3), some (.int x4), some (.int x5)], [.int s0, .int s1], σ)).trans rfl
set_option maxRecDepth 20000 in
theorem q_25_3415 (G : Nat × (Nat → Int32)) (d : Nat) (rx1 : Nat) (x2 : Int32) (x3 : Int32) (x4 : Int32) (x5 : Int32) (σ : aH) : Lq G d M_25 (81, [some (.ref 1), some (.ref rx1), some (.int x2), some (.int x3), some (.int x4), some (.int x5)], [], σ) = Lq G d M_25 (91, [some (.ref 1), some (.ref rx1), some (.int x2), some (.int (x3 + (1 : Int32))), some (.int (1 : Int32)), some (.int x5)], [], σ) :=
  (aUn_eq (tkd G.1 G.2) tmi (aRun (tkd G.1 G.2) tmi tmt d) M_25 [] 4 (81, [some (.ref 1), some (.ref rx1), some (.int x2), some (.int x3), some (.int x4), some (.int x5)], [], σ)).trans rfl
set_option maxRecDepth 20000 in
theorem q_31_3416 (G : Nat × (Nat → Int32)) (d : Nat) (x1 : Int32) (σ : aH) : Lq G d M_31 (0, [some (.ref 7), some (.int x1)], [], σ) = Lq G d M_31 (5, [some (.ref 7), some (.int x1)], [.int x1, .ref 8], σ) :=
  (aUn_eq (tkd G.1 G.2) tmi (aRun (tkd G.1 G.2) tmi tmt d) M_31 [] 3 (0, [some (.ref 7), some (.int x1)], [], σ)).trans rfl
set_option maxRecDepth 20000 in
theorem q_31_3417 (G : Nat × (Nat → Int32)) (d : Nat) (x1 : Int32) (s0 : Int32) (σ : aH) : Lq G d M_31 (5, [some (.ref 7), some (.int x1)], [.int s0, .ref 8], σ) = aCI (Rn G d 32 [.ref 8, .int s0] σ) fun v2 σ1 => Lq G d M_31 (8, [some (.ref 7), some (.int x1)], [.int v2], σ1) :=
  (aUn_eq (tkd G.1 G.2) tmi (aRun (tkd G.1 G.2) tmi tmt d) M_31 [] 1 (5, [some (.ref 7), some (.int x1)], [.int s0, .ref 8], σ)).trans rfl
set_option maxRecDepth 20000 in
theorem q_31_3418 (G : Nat × (Nat → Int32)) (d : Nat) (x1 : Int32) (s0 : Int32) (σ : aH) : Lq G d M_31 (8, [some (.ref 7), some (.int x1)], [.int s0], σ) = Lq G d M_31 (12, [some (.ref 7), some (.int x1)], [.int x1, .ref 65, .int s0], σ) :=
  (aUn_eq (tkd G.1 G.2) tmi (aRun (tkd G.1 G.2) tmi tmt d) M_31 [] 2 (8, [some (.ref 7), some (.int x1)], [.int s0], σ)).trans rfl
set_option maxRecDepth 20000 in
theorem q_31_3419 (G : Nat × (Nat → Int32)) (d : Nat) (x1 : Int32) (s0 : Int32) (s2 : Int32) (σ : aH) : Lq G d M_31 (12, [some (.ref 7), some (.int x1)], [.int s0, .ref 65, .int s2], σ) = aCI (Rn G d 32 [.ref 65, .int s0] σ) fun v2 σ1 => Lq G d M_31 (15, [some (.ref 7), some (.int x1)], [.int v2, .int s2], σ1) :=
  (aUn_eq (tkd G.1 G.2) tmi (aRun (tkd G.1 G.2) tmi tmt d) M_31 [] 1 (12, [some (.ref 7), some (.int x1)], [.int s0, .ref 65, .int s2], σ)).trans rfl
set_option maxRecDepth 20000 in
theorem q_31_3420 (G : Nat × (Nat → Int32)) (d : Nat) (x1 : Int32) (s0 : Int32) (s1 : Int32) (σ : aH) : Lq G d M_31 (15, [some (.ref 7), some (.int x1)], [.int s0, .int s1], σ) = if s1 < s0 then Lq G d M_31 (22, [some (.ref 7), some (.int x1)], [], σ) else Lq G d M_31 (18, [some (.ref 7), some (.int x1)], [], σ) :=
  (aUn_eq (tkd G.1 G.2) tmi (aRun (tkd G.1 G.2) tmi tmt d) M_31 [] 1 (15, [some (.ref 7), some (.int x1)], [.int s0, .int s1], σ)).trans rfl
set_option maxRecDepth 20000 in
theorem q_31_3421 (G : Nat × (Nat → Int32)) (d : Nat) (x1 : Int32) (σ : aH) : Lq G d M_31 (22, [some (.ref 7), some (.int x1)], [], σ) = Lq G d M_31 (23, [some (.ref 7), some (.int x1)], [.int (0 : Int32)], σ) :=
  (aUn_eq (tkd G.1 G.2) tmi (aRun (tkd G.1 G.2) tmi tmt d) M_31 [] 1 (22, [some (.ref 7), some (.int x1)], [], σ)).trans rfl
set_option maxRecDepth 20000 in
theorem q_31_3422 (G : Nat × (Nat → Int32)) (d : Nat) (x1 : Int32) (s0 : Int32) (σ : aH) : Lq G d M_31 (23, [some (.ref 7), some (.int x1)], [.int s0], σ) = aNar .boolean (s0) (some (.inl (some (.int s0)), σ)) :=
  (aUn_eq (tkd G.1 G.2) tmi (aRun (tkd G.1 G.2) tmi tmt d) M_31 [] 1 (23, [some (.ref 7), some (.int x1)], [.int s0], σ)).trans rfl
set_option maxRecDepth 20000 in
theorem q_31_3423 (G : Nat × (Nat → Int32)) (d : Nat) (x1 : Int32) (σ : aH) : Lq G d M_31 (18, [some (.ref 7), some (.int x1)], [], σ) = Lq G d M_31 (23, [some (.ref 7), some (.int x1)], [.int (1 : Int32)], σ) :=
  (aUn_eq (tkd G.1 G.2) tmi (aRun (tkd G.1 G.2) tmi tmt d) M_31 [] 2 (18, [some (.ref 7), some (.int x1)], [], σ)).trans rfl
set_option maxRecDepth 20000 in
theorem q_33_3424 (G : Nat × (Nat → Int32)) (d : Nat)  (σ : aH) : Lq G d M_33 (0, [some (.ref 1), some (.ref 7)], [], σ) = Lq G d M_33 (9, [some (.ref 1), some (.ref 7)], [.int (99 : Int32), .int (1 : Int32), .ref 74, .ref 1, .int (0 : Int32), .int (0 : Int32), .ref 7], σ) :=
  (aUn_eq (tkd G.1 G.2) tmi (aRun (tkd G.1 G.2) tmi tmt d) M_33 [] 7 (0, [some (.ref 1), some (.ref 7)], [], σ)).trans rfl
set_option maxRecDepth 20000 in
theorem q_33_3425 (G : Nat × (Nat → Int32)) (d : Nat) (s0 : Int32) (s1 : Int32) (s4 : Int32) (s5 : Int32) (σ : aH) : Lq G d M_33 (9, [some (.ref 1), some (.ref 7)], [.int s0, .int s1, .ref 74, .ref 1, .int s4, .int s5, .ref 7], σ) = aCI (Rn G d 34 [.ref 1, .ref 74, .int s1, .int s0] σ) fun v2 σ1 => Lq G d M_33 (12, [some (.ref 1), some (.ref 7)], [.int v2, .int s4, .int s5, .ref 7], σ1) :=
  (aUn_eq (tkd G.1 G.2) tmi (aRun (tkd G.1 G.2) tmi tmt d) M_33 [] 1 (9, [some (.ref 1), some (.ref 7)], [.int s0, .int s1, .ref 74, .ref 1, .int s4, .int s5, .ref 7], σ)).trans rfl
set_option maxRecDepth 20000 in
theorem q_33_3426 (G : Nat × (Nat → Int32)) (d : Nat) (s0 : Int32) (s1 : Int32) (s2 : Int32) (σ : aH) : Lq G d M_33 (12, [some (.ref 1), some (.ref 7)], [.int s0, .int s1, .int s2, .ref 7], σ) = aCV (Rn G d 37 [.ref 7, .int s2, .int s1, .int s0] σ) fun σ1 => Lq G d M_33 (15, [some (.ref 1), some (.ref 7)], [], σ1) :=
  (aUn_eq (tkd G.1 G.2) tmi (aRun (tkd G.1 G.2) tmi tmt d) M_33 [] 1 (12, [some (.ref 1), some (.ref 7)], [.int s0, .int s1, .int s2, .ref 7], σ)).trans rfl
set_option maxRecDepth 20000 in
theorem q_33_3427 (G : Nat × (Nat → Int32)) (d : Nat)  (σ : aH) : Lq G d M_33 (15, [some (.ref 1), some (.ref 7)], [], σ) = Lq G d M_33 (24, [some (.ref 1), some (.ref 7)], [.int (99 : Int32), .int (1 : Int32), .ref 76, .ref 1, .int (1 : Int32), .int (0 : Int32), .ref 7], σ) :=
  (aUn_eq (tkd G.1 G.2) tmi (aRun (tkd G.1 G.2) tmi tmt d) M_33 [] 7 (15, [some (.ref 1), some (.ref 7)], [], σ)).trans rfl
set_option maxRecDepth 20000 in
theorem q_33_3428 (G : Nat × (Nat → Int32)) (d : Nat) (s0 : Int32) (s1 : Int32) (s4 : Int32) (s5 : Int32) (σ : aH) : Lq G d M_33 (24, [some (.ref 1), some (.ref 7)], [.int s0, .int s1, .ref 76, .ref 1, .int s4, .int s5, .ref 7], σ) = aCI (Rn G d 34 [.ref 1, .ref 76, .int s1, .int s0] σ) fun v2 σ1 => Lq G d M_33 (27, [some (.ref 1), some (.ref 7)], [.int v2, .int s4, .int s5, .ref 7], σ1) :=
  (aUn_eq (tkd G.1 G.2) tmi (aRun (tkd G.1 G.2) tmi tmt d) M_33 [] 1 (24, [some (.ref 1), some (.ref 7)], [.int s0, .int s1, .ref 76, .ref 1, .int s4, .int s5, .ref 7], σ)).trans rfl
set_option maxRecDepth 20000 in
theorem q_33_3429 (G : Nat × (Nat → Int32)) (d : Nat) (s0 : Int32) (s1 : Int32) (s2 : Int32) (σ : aH) : Lq G d M_33 (27, [some (.ref 1), some (.ref 7)], [.int s0, .int s1, .int s2, .ref 7], σ) = aCV (Rn G d 37 [.ref 7, .int s2, .int s1, .int s0] σ) fun σ1 => Lq G d M_33 (30, [some (.ref 1), some (.ref 7)], [], σ1) :=
  (aUn_eq (tkd G.1 G.2) tmi (aRun (tkd G.1 G.2) tmi tmt d) M_33 [] 1 (27, [some (.ref 1), some (.ref 7)], [.int s0, .int s1, .int s2, .ref 7], σ)).trans rfl
set_option maxRecDepth 20000 in
theorem q_33_3430 (G : Nat × (Nat → Int32)) (d : Nat)  (σ : aH) : Lq G d M_33 (30, [some (.ref 1), some (.ref 7)], [], σ) = Lq G d M_33 (40, [some (.ref 1), some (.ref 7)], [.int (999 : Int32), .int (1 : Int32), .ref 78, .ref 1, .int (2 : Int32), .int (0 : Int32), .ref 7], σ) :=
  (aUn_eq (tkd G.1 G.2) tmi (aRun (tkd G.1 G.2) tmi tmt d) M_33 [] 7 (30, [some (.ref 1), some (.ref 7)], [], σ)).trans rfl
set_option maxRecDepth 20000 in
theorem q_33_3431 (G : Nat × (Nat → Int32)) (d : Nat) (s0 : Int32) (s1 : Int32) (s4 : Int32) (s5 : Int32) (σ : aH) : Lq G d M_33 (40, [some (.ref 1), some (.ref 7)], [.int s0, .int s1, .ref 78, .ref 1, .int s4, .int s5, .ref 7], σ) = aCI (Rn G d 34 [.ref 1, .ref 78, .int s1, .int s0] σ) fun v2 σ1 => Lq G d M_33 (43, [some (.ref 1), some (.ref 7)], [.int v2, .int s4, .int s5, .ref 7], σ1) :=
  (aUn_eq (tkd G.1 G.2) tmi (aRun (tkd G.1 G.2) tmi tmt d) M_33 [] 1 (40, [some (.ref 1), some (.ref 7)], [.int s0, .int s1, .ref 78, .ref 1, .int s4, .int s5, .ref 7], σ)).trans rfl
set_option maxRecDepth 20000 in
theorem q_33_3432 (G : Nat × (Nat → Int32)) (d : Nat) (s0 : Int32) (s1 : Int32) (s2 : Int32) (σ : aH) : Lq G d M_33 (43, [some (.ref 1), some (.ref 7)], [.int s0, .int s1, .int s2, .ref 7], σ) = aCV (Rn G d 37 [.ref 7, .int s2, .int s1, .int s0] σ) fun σ1 => Lq G d M_33 (46, [some (.ref 1), some (.ref 7)], [], σ1) :=
  (aUn_eq (tkd G.1 G.2) tmi (aRun (tkd G.1 G.2) tmi tmt d) M_33 [] 1 (43, [some (.ref 1), some (.ref 7)], [.int s0, .int s1, .int s2, .ref 7], σ)).trans rfl
set_option maxRecDepth 20000 in
theorem q_33_3433 (G : Nat × (Nat → Int32)) (d : Nat)  (σ : aH) : Lq G d M_33 (46, [some (.ref 1), some (.ref 7)], [], σ) = Lq G d M_33 (56, [some (.ref 1), some (.ref 7)], [.int (1000 : Int32), .int (0 : Int32), .ref 80, .ref 1, .int (3 : Int32), .int (0 : Int32), .ref 7], σ) :=
  (aUn_eq (tkd G.1 G.2) tmi (aRun (tkd G.1 G.2) tmi tmt d) M_33 [] 7 (46, [some (.ref 1), some (.ref 7)], [], σ)).trans rfl
set_option maxRecDepth 20000 in
theorem q_33_3434 (G : Nat × (Nat → Int32)) (d : Nat) (s0 : Int32) (s1 : Int32) (s4 : Int32) (s5 : Int32) (σ : aH) : Lq G d M_33 (56, [some (.ref 1), some (.ref 7)], [.int s0, .int s1, .ref 80, .ref 1, .int s4, .int s5, .ref 7], σ) = aCI (Rn G d 34 [.ref 1, .ref 80, .int s1, .int s0] σ) fun v2 σ1 => Lq G d M_33 (59, [some (.ref 1), some (.ref 7)], [.int v2, .int s4, .int s5, .ref 7], σ1) :=
  (aUn_eq (tkd G.1 G.2) tmi (aRun (tkd G.1 G.2) tmi tmt d) M_33 [] 1 (56, [some (.ref 1), some (.ref 7)], [.int s0, .int s1, .ref 80, .ref 1, .int s4, .int s5, .ref 7], σ)).trans rfl
set_option maxRecDepth 20000 in
theorem q_33_3435 (G : Nat × (Nat → Int32)) (d : Nat) (s0 : Int32) (s1 : Int32) (s2 : Int32) (σ : aH) : Lq G d M_33 (59, [some (.ref 1), some (.ref 7)], [.int s0, .int s1, .int s2, .ref 7], σ) = aCV (Rn G d 37 [.ref 7, .int s2, .int s1, .int s0] σ) fun σ1 => Lq G d M_33 (62, [some (.ref 1), some (.ref 7)], [], σ1) :=
  (aUn_eq (tkd G.1 G.2) tmi (aRun (tkd G.1 G.2) tmi tmt d) M_33 [] 1 (59, [some (.ref 1), some (.ref 7)], [.int s0, .int s1, .int s2, .ref 7], σ)).trans rfl
set_option maxRecDepth 20000 in
theorem q_33_3436 (G : Nat × (Nat → Int32)) (d : Nat)  (σ : aH) : Lq G d M_33 (62, [some (.ref 1), some (.ref 7)], [], σ) = Lq G d M_33 (72, [some (.ref 1), some (.ref 7)], [.int (0 : Int32), .int (100 : Int32), .int (0 : Int32), .ref 82, .ref 1, .int (4 : Int32), .int (0 : Int32), .ref 7], σ) :=
  (aUn_eq (tkd G.1 G.2) tmi (aRun (tkd G.1 G.2) tmi tmt d) M_33 [] 8 (62, [some (.ref 1), some (.ref 7)], [], σ)).trans rfl
set_option maxRecDepth 20000 in
theorem q_33_3437 (G : Nat × (Nat → Int32)) (d : Nat) (s0 : Int32) (s1 : Int32) (s2 : Int32) (s5 : Int32) (s6 : Int32) (σ : aH) : Lq G d M_33 (72, [some (.ref 1), some (.ref 7)], [.int s0, .int s1, .int s2, .ref 82, .ref 1, .int s5, .int s6, .ref 7], σ) = aCI (Rn G d 38 [.ref 1, .ref 82, .int s2, .int s1, .int s0] σ) fun v2 σ1 => Lq G d M_33 (75, [some (.ref 1), some (.ref 7)], [.int v2, .int s5, .int s6, .ref 7], σ1) :=
  (aUn_eq (tkd G.1 G.2) tmi (aRun (tkd G.1 G.2) tmi tmt d) M_33 [] 1 (72, [some (.ref 1), some (.ref 7)], [.int s0, .int s1, .int s2, .ref 82, .ref 1, .int s5, .int s6, .ref 7], σ)).trans rfl
set_option maxRecDepth 20000 in
theorem q_33_3438 (G : Nat × (Nat → Int32)) (d : Nat) (s0 : Int32) (s1 : Int32) (s2 : Int32) (σ : aH) : Lq G d M_33 (75, [some (.ref 1), some (.ref 7)], [.int s0, .int s1, .int s2, .ref 7], σ) = aCV (Rn G d 37 [.ref 7, .int s2, .int s1, .int s0] σ) fun σ1 => Lq G d M_33 (78, [some (.ref 1), some (.ref 7)], [], σ1) :=
  (aUn_eq (tkd G.1 G.2) tmi (aRun (tkd G.1 G.2) tmi tmt d) M_33 [] 1 (75, [some (.ref 1), some (.ref 7)], [.int s0, .int s1, .int s2, .ref 7], σ)).trans rfl
set_option maxRecDepth 20000 in
theorem q_33_3439 (G : Nat × (Nat → Int32)) (d : Nat)  (σ : aH) : Lq G d M_33 (78, [some (.ref 1), some (.ref 7)], [], σ) = Lq G d M_33 (88, [some (.ref 1), some (.ref 7)], [.int (0 : Int32), .int (100 : Int32), .int (0 : Int32), .ref 84, .ref 1, .int (5 : Int32), .int (0 : Int32), .ref 7], σ) :=
  (aUn_eq (tkd G.1 G.2) tmi (aRun (tkd G.1 G.2) tmi tmt d) M_33 [] 8 (78, [some (.ref 1), some (.ref 7)], [], σ)).trans rfl
set_option maxRecDepth 20000 in
theorem q_33_3440 (G : Nat × (Nat → Int32)) (d : Nat) (s0 : Int32) (s1 : Int32) (s2 : Int32) (s5 : Int32) (s6 : Int32) (σ : aH) : Lq G d M_33 (88, [some (.ref 1), some (.ref 7)], [.int s0, .int s1, .int s2, .ref 84, .ref 1, .int s5, .int s6, .ref 7], σ) = aCI (Rn G d 38 [.ref 1, .ref 84, .int s2, .int s1, .int s0] σ) fun v2 σ1 => Lq G d M_33 (91, [some (.ref 1), some (.ref 7)], [.int v2, .int s5, .int s6, .ref 7], σ1) :=
  (aUn_eq (tkd G.1 G.2) tmi (aRun (tkd G.1 G.2) tmi tmt d) M_33 [] 1 (88, [some (.ref 1), some (.ref 7)], [.int s0, .int s1, .int s2, .ref 84, .ref 1, .int s5, .int s6, .ref 7], σ)).trans rfl
set_option maxRecDepth 20000 in
theorem q_33_3441 (G : Nat × (Nat → Int32)) (d : Nat) (s0 : Int32) (s1 : Int32) (s2 : Int32) (σ : aH) : Lq G d M_33 (91, [some (.ref 1), some (.ref 7)], [.int s0, .int s1, .int s2, .ref 7], σ) = aCV (Rn G d 37 [.ref 7, .int s2, .int s1, .int s0] σ) fun σ1 => Lq G d M_33 (94, [some (.ref 1), some (.ref 7)], [], σ1) :=
  (aUn_eq (tkd G.1 G.2) tmi (aRun (tkd G.1 G.2) tmi tmt d) M_33 [] 1 (91, [some (.ref 1), some (.ref 7)], [.int s0, .int s1, .int s2, .ref 7], σ)).trans rfl
set_option maxRecDepth 20000 in
theorem q_33_3442 (G : Nat × (Nat → Int32)) (d : Nat)  (σ : aH) : Lq G d M_33 (94, [some (.ref 1), some (.ref 7)], [], σ) = some (.inl none, σ) :=
  (aUn_eq (tkd G.1 G.2) tmi (aRun (tkd G.1 G.2) tmi tmt d) M_33 [] 1 (94, [some (.ref 1), some (.ref 7)], [], σ)).trans rfl
set_option maxRecDepth 20000 in
theorem q_55_3443 (G : Nat × (Nat → Int32)) (d : Nat)  (σ : aH) : Lq G d M_55 (0, [some (.ref 1)], [], σ) = Lq G d M_55 (3, [some (.ref 1)], [.int (59 : Int32), .ref 1], σ) :=
  (aUn_eq (tkd G.1 G.2) tmi (aRun (tkd G.1 G.2) tmi tmt d) M_55 [] 2 (0, [some (.ref 1)], [], σ)).trans rfl
set_option maxRecDepth 20000 in
theorem q_55_3444 (G : Nat × (Nat → Int32)) (d : Nat) (s0 : Int32) (σ : aH) : Lq G d M_55 (3, [some (.ref 1)], [.int s0, .ref 1], σ) = aCI (Rn G d 45 [.ref 1, .int s0] σ) fun v2 σ1 => Lq G d M_55 (6, [some (.ref 1)], [.int v2], σ1) :=
  (aUn_eq (tkd G.1 G.2) tmi (aRun (tkd G.1 G.2) tmi tmt d) M_55 [] 1 (3, [some (.ref 1)], [.int s0, .ref 1], σ)).trans rfl
set_option maxRecDepth 20000 in
theorem q_55_3445 (G : Nat × (Nat → Int32)) (d : Nat) (s0 : Int32) (σ : aH) : Lq G d M_55 (6, [some (.ref 1)], [.int s0], σ) = if s0 = 0 then Lq G d M_55 (9, [some (.ref 1)], [], σ) else Lq G d M_55 (14, [some (.ref 1)], [], σ) :=
  (aUn_eq (tkd G.1 G.2) tmi (aRun (tkd G.1 G.2) tmi tmt d) M_55 [] 1 (6, [some (.ref 1)], [.int s0], σ)).trans rfl
set_option maxRecDepth 20000 in
theorem q_55_3446 (G : Nat × (Nat → Int32)) (d : Nat)  (σ : aH) : Lq G d M_55 (9, [some (.ref 1)], [], σ) = Lq G d M_55 (11, [some (.ref 1)], [.int (1 : Int32), .ref 1], σ) :=
  (aUn_eq (tkd G.1 G.2) tmi (aRun (tkd G.1 G.2) tmi tmt d) M_55 [] 2 (9, [some (.ref 1)], [], σ)).trans rfl
set_option maxRecDepth 20000 in
theorem q_55_3447 (G : Nat × (Nat → Int32)) (d : Nat) (s0 : Int32) (σ : aH) : Lq G d M_55 (11, [some (.ref 1)], [.int s0, .ref 1], σ) = aCV (Rn G d 30 [.ref 1, .int s0] σ) fun σ1 => Lq G d M_55 (14, [some (.ref 1)], [], σ1) :=
  (aUn_eq (tkd G.1 G.2) tmi (aRun (tkd G.1 G.2) tmi tmt d) M_55 [] 1 (11, [some (.ref 1)], [.int s0, .ref 1], σ)).trans rfl
set_option maxRecDepth 20000 in
theorem q_55_3448 (G : Nat × (Nat → Int32)) (d : Nat)  (σ : aH) : Lq G d M_55 (14, [some (.ref 1)], [], σ) = Lq G d M_55 (15, [some (.ref 1)], [.ref 1], σ) :=
  (aUn_eq (tkd G.1 G.2) tmi (aRun (tkd G.1 G.2) tmi tmt d) M_55 [] 1 (14, [some (.ref 1)], [], σ)).trans rfl
set_option maxRecDepth 20000 in
theorem q_55_3449 (G : Nat × (Nat → Int32)) (d : Nat)  (σ : aH) : Lq G d M_55 (15, [some (.ref 1)], [.ref 1], σ) = aCV (Rn G d 8 [.ref 1] σ) fun σ1 => Lq G d M_55 (18, [some (.ref 1)], [], σ1) :=
  (aUn_eq (tkd G.1 G.2) tmi (aRun (tkd G.1 G.2) tmi tmt d) M_55 [] 1 (15, [some (.ref 1)], [.ref 1], σ)).trans rfl
set_option maxRecDepth 20000 in
theorem q_55_3450 (G : Nat × (Nat → Int32)) (d : Nat)  (σ : aH) : Lq G d M_55 (18, [some (.ref 1)], [], σ) = some (.inl none, σ) :=
  (aUn_eq (tkd G.1 G.2) tmi (aRun (tkd G.1 G.2) tmi tmt d) M_55 [] 1 (18, [some (.ref 1)], [], σ)).trans rfl
set_option maxRecDepth 20000 in
theorem q_56_3451 (G : Nat × (Nat → Int32)) (d : Nat) (x1 : Int32) (σ : aH) : Lq G d M_56 (0, [some (.ref 7), some (.int x1)], [], σ) = Lq G d M_56 (10, [some (.ref 7), some (.int x1)], [.int x1, .ref 8, .int x1, .ref 8], σ) :=
  (aUn_eq (tkd G.1 G.2) tmi (aRun (tkd G.1 G.2) tmi tmt d) M_56 [] 6 (0, [some (.ref 7), some (.int x1)], [], σ)).trans rfl
set_option maxRecDepth 20000 in
theorem q_56_3452 (G : Nat × (Nat → Int32)) (d : Nat) (x1 : Int32) (s0 : Int32) (s2 : Int32) (σ : aH) : Lq G d M_56 (10, [some (.ref 7), some (.int x1)], [.int s0, .ref 8, .int s2, .ref 8], σ) = aCI (Rn G d 32 [.ref 8, .int s0] σ) fun v2 σ1 => Lq G d M_56 (13, [some (.ref 7), some (.int x1)], [.int v2, .int s2, .ref 8], σ1) :=
  (aUn_eq (tkd G.1 G.2) tmi (aRun (tkd G.1 G.2) tmi tmt d) M_56 [] 1 (10, [some (.ref 7), some (.int x1)], [.int s0, .ref 8, .int s2, .ref 8], σ)).trans rfl
set_option maxRecDepth 20000 in
theorem q_56_3453 (G : Nat × (Nat → Int32)) (d : Nat) (x1 : Int32) (s0 : Int32) (s1 : Int32) (σ : aH) : Lq G d M_56 (13, [some (.ref 7), some (.int x1)], [.int s0, .int s1, .ref 8], σ) = Lq G d M_56 (15, [some (.ref 7), some (.int x1)], [.int (s0 + (1 : Int32)), .int s1, .ref 8], σ) :=
  (aUn_eq (tkd G.1 G.2) tmi (aRun (tkd G.1 G.2) tmi tmt d) M_56 [] 2 (13, [some (.ref 7), some (.int x1)], [.int s0, .int s1, .ref 8], σ)).trans rfl
set_option maxRecDepth 20000 in
theorem q_56_3454 (G : Nat × (Nat → Int32)) (d : Nat) (x1 : Int32) (s0 : Int32) (s1 : Int32) (σ : aH) : Lq G d M_56 (15, [some (.ref 7), some (.int x1)], [.int s0, .int s1, .ref 8], σ) = aCV (Rn G d 24 [.ref 8, .int s1, .int s0] σ) fun σ1 => Lq G d M_56 (18, [some (.ref 7), some (.int x1)], [], σ1) :=
  (aUn_eq (tkd G.1 G.2) tmi (aRun (tkd G.1 G.2) tmi tmt d) M_56 [] 1 (15, [some (.ref 7), some (.int x1)], [.int s0, .int s1, .ref 8], σ)).trans rfl
set_option maxRecDepth 20000 in
theorem q_56_3455 (G : Nat × (Nat → Int32)) (d : Nat) (x1 : Int32) (σ : aH) : Lq G d M_56 (18, [some (.ref 7), some (.int x1)], [], σ) = some (.inl none, σ) :=
  (aUn_eq (tkd G.1 G.2) tmi (aRun (tkd G.1 G.2) tmi tmt d) M_56 [] 1 (18, [some (.ref 7), some (.int x1)], [], σ)).trans rfl
set_option maxRecDepth 20000 in
theorem q_40_3456 (G : Nat × (Nat → Int32)) (d : Nat)  (σ : aH) : Lq G d M_40 (0, [some (.ref 1), some (.ref 7)], [], σ) = Lq G d M_40 (10, [some (.ref 1), some (.ref 7)], [.int (999 : Int32), .int (0 : Int32), .ref 86, .ref 1, .int (0 : Int32), .int (1 : Int32), .ref 7], σ) :=
  (aUn_eq (tkd G.1 G.2) tmi (aRun (tkd G.1 G.2) tmi tmt d) M_40 [] 7 (0, [some (.ref 1), some (.ref 7)], [], σ)).trans rfl
set_option maxRecDepth 20000 in
theorem q_40_3457 (G : Nat × (Nat → Int32)) (d : Nat) (s0 : Int32) (s1 : Int32) (s4 : Int32) (s5 : Int32) (σ : aH) : Lq G d M_40 (10, [some (.ref 1), some (.ref 7)], [.int s0, .int s1, .ref 86, .ref 1, .int s4, .int s5, .ref 7], σ) = aCI (Rn G d 34 [.ref 1, .ref 86, .int s1, .int s0] σ) fun v2 σ1 => Lq G d M_40 (13, [some (.ref 1), some (.ref 7)], [.int v2, .int s4, .int s5, .ref 7], σ1) :=
  (aUn_eq (tkd G.1 G.2) tmi (aRun (tkd G.1 G.2) tmi tmt d) M_40 [] 1 (10, [some (.ref 1), some (.ref 7)], [.int s0, .int s1, .ref 86, .ref 1, .int s4, .int s5, .ref 7], σ)).trans rfl
set_option maxRecDepth 20000 in
theorem q_40_3458 (G : Nat × (Nat → Int32)) (d : Nat) (s0 : Int32) (s1 : Int32) (s2 : Int32) (σ : aH) : Lq G d M_40 (13, [some (.ref 1), some (.ref 7)], [.int s0, .int s1, .int s2, .ref 7], σ) = aCV (Rn G d 37 [.ref 7, .int s2, .int s1, .int s0] σ) fun σ1 => Lq G d M_40 (16, [some (.ref 1), some (.ref 7)], [], σ1) :=
  (aUn_eq (tkd G.1 G.2) tmi (aRun (tkd G.1 G.2) tmi tmt d) M_40 [] 1 (13, [some (.ref 1), some (.ref 7)], [.int s0, .int s1, .int s2, .ref 7], σ)).trans rfl
set_option maxRecDepth 20000 in
theorem q_40_3459 (G : Nat × (Nat → Int32)) (d : Nat)  (σ : aH) : Lq G d M_40 (16, [some (.ref 1), some (.ref 7)], [], σ) = Lq G d M_40 (27, [some (.ref 1), some (.ref 7)], [.int (0 : Int32), .int (2000 : Int32), .int (0 : Int32), .ref 88, .ref 1, .int (1 : Int32), .int (1 : Int32), .ref 7], σ) :=
  (aUn_eq (tkd G.1 G.2) tmi (aRun (tkd G.1 G.2) tmi tmt d) M_40 [] 8 (16, [some (.ref 1), some (.ref 7)], [], σ)).trans rfl
set_option maxRecDepth 20000 in
theorem q_40_3460 (G : Nat × (Nat → Int32)) (d : Nat) (s0 : Int32) (s1 : Int32) (s2 : Int32) (s5 : Int32) (s6 : Int32) (σ : aH) : Lq G d M_40 (27, [some (.ref 1), some (.ref 7)], [.int s0, .int s1, .int s2, .ref 88, .ref 1, .int s5, .int s6, .ref 7], σ) = aCI (Rn G d 38 [.ref 1, .ref 88, .int s2, .int s1, .int s0] σ) fun v2 σ1 => Lq G d M_40 (30, [some (.ref 1), some (.ref 7)], [.int v2, .int s5, .int s6, .ref 7], σ1) :=
  (aUn_eq (tkd G.1 G.2) tmi (aRun (tkd G.1 G.2) tmi tmt d) M_40 [] 1 (27, [some (.ref 1), some (.ref 7)], [.int s0, .int s1, .int s2, .ref 88, .ref 1, .int s5, .int s6, .ref 7], σ)).trans rfl
set_option maxRecDepth 20000 in
theorem q_40_3461 (G : Nat × (Nat → Int32)) (d : Nat) (s0 : Int32) (s1 : Int32) (s2 : Int32) (σ : aH) : Lq G d M_40 (30, [some (.ref 1), some (.ref 7)], [.int s0, .int s1, .int s2, .ref 7], σ) = aCV (Rn G d 37 [.ref 7, .int s2, .int s1, .int s0] σ) fun σ1 => Lq G d M_40 (33, [some (.ref 1), some (.ref 7)], [], σ1) :=
  (aUn_eq (tkd G.1 G.2) tmi (aRun (tkd G.1 G.2) tmi tmt d) M_40 [] 1 (30, [some (.ref 1), some (.ref 7)], [.int s0, .int s1, .int s2, .ref 7], σ)).trans rfl
set_option maxRecDepth 20000 in
theorem q_40_3462 (G : Nat × (Nat → Int32)) (d : Nat)  (σ : aH) : Lq G d M_40 (33, [some (.ref 1), some (.ref 7)], [], σ) = Lq G d M_40 (39, [some (.ref 1), some (.ref 7)], [.ref 90, .ref 1, .int (2 : Int32), .int (1 : Int32), .ref 7], σ) :=
  (aUn_eq (tkd G.1 G.2) tmi (aRun (tkd G.1 G.2) tmi tmt d) M_40 [] 5 (33, [some (.ref 1), some (.ref 7)], [], σ)).trans rfl
set_option maxRecDepth 20000 in
theorem q_40_3463 (G : Nat × (Nat → Int32)) (d : Nat) (s2 : Int32) (s3 : Int32) (σ : aH) : Lq G d M_40 (39, [some (.ref 1), some (.ref 7)], [.ref 90, .ref 1, .int s2, .int s3, .ref 7], σ) = aCI (Rn G d 41 [.ref 1, .ref 90] σ) fun v2 σ1 => Lq G d M_40 (42, [some (.ref 1), some (.ref 7)], [.int v2, .int s2, .int s3, .ref 7], σ1) :=
  (aUn_eq (tkd G.1 G.2) tmi (aRun (tkd G.1 G.2) tmi tmt d) M_40 [] 1 (39, [some (.ref 1), some (.ref 7)], [.ref 90, .ref 1, .int s2, .int s3, .ref 7], σ)).trans rfl
set_option maxRecDepth 20000 in
theorem q_40_3464 (G : Nat × (Nat → Int32)) (d : Nat) (s0 : Int32) (s1 : Int32) (s2 : Int32) (σ : aH) : Lq G d M_40 (42, [some (.ref 1), some (.ref 7)], [.int s0, .int s1, .int s2, .ref 7], σ) = aCV (Rn G d 37 [.ref 7, .int s2, .int s1, .int s0] σ) fun σ1 => Lq G d M_40 (45, [some (.ref 1), some (.ref 7)], [], σ1) :=
  (aUn_eq (tkd G.1 G.2) tmi (aRun (tkd G.1 G.2) tmi tmt d) M_40 [] 1 (42, [some (.ref 1), some (.ref 7)], [.int s0, .int s1, .int s2, .ref 7], σ)).trans rfl
set_option maxRecDepth 20000 in
theorem q_40_3465 (G : Nat × (Nat → Int32)) (d : Nat)  (σ : aH) : Lq G d M_40 (45, [some (.ref 1), some (.ref 7)], [], σ) = Lq G d M_40 (51, [some (.ref 1), some (.ref 7)], [.ref 92, .ref 1, .int (3 : Int32), .int (1 : Int32), .ref 7], σ) :=
  (aUn_eq (tkd G.1 G.2) tmi (aRun (tkd G.1 G.2) tmi tmt d) M_40 [] 5 (45, [some (.ref 1), some (.ref 7)], [], σ)).trans rfl
set_option maxRecDepth 20000 in
theorem q_40_3466 (G : Nat × (Nat → Int32)) (d : Nat) (s2 : Int32) (s3 : Int32) (σ : aH) : Lq G d M_40 (51, [some (.ref 1), some (.ref 7)], [.ref 92, .ref 1, .int s2, .int s3, .ref 7], σ) = aCI (Rn G d 41 [.ref 1, .ref 92] σ) fun v2 σ1 => Lq G d M_40 (54, [some (.ref 1), some (.ref 7)], [.int v2, .int s2, .int s3, .ref 7], σ1) :=
  (aUn_eq (tkd G.1 G.2) tmi (aRun (tkd G.1 G.2) tmi tmt d) M_40 [] 1 (51, [some (.ref 1), some (.ref 7)], [.ref 92, .ref 1, .int s2, .int s3, .ref 7], σ)).trans rfl
set_option maxRecDepth 20000 in
theorem q_40_3467 (G : Nat × (Nat → Int32)) (d : Nat) (s0 : Int32) (s1 : Int32) (s2 : Int32) (σ : aH) : Lq G d M_40 (54, [some (.ref 1), some (.ref 7)], [.int s0, .int s1, .int s2, .ref 7], σ) = aCV (Rn G d 37 [.ref 7, .int s2, .int s1, .int s0] σ) fun σ1 => Lq G d M_40 (57, [some (.ref 1), some (.ref 7)], [], σ1) :=
  (aUn_eq (tkd G.1 G.2) tmi (aRun (tkd G.1 G.2) tmi tmt d) M_40 [] 1 (54, [some (.ref 1), some (.ref 7)], [.int s0, .int s1, .int s2, .ref 7], σ)).trans rfl
set_option maxRecDepth 20000 in
theorem q_40_3468 (G : Nat × (Nat → Int32)) (d : Nat)  (σ : aH) : Lq G d M_40 (57, [some (.ref 1), some (.ref 7)], [], σ) = Lq G d M_40 (63, [some (.ref 1), some (.ref 7)], [.ref 94, .ref 1, .int (4 : Int32), .int (1 : Int32), .ref 7], σ) :=
  (aUn_eq (tkd G.1 G.2) tmi (aRun (tkd G.1 G.2) tmi tmt d) M_40 [] 5 (57, [some (.ref 1), some (.ref 7)], [], σ)).trans rfl
set_option maxRecDepth 20000 in
theorem q_40_3469 (G : Nat × (Nat → Int32)) (d : Nat) (s2 : Int32) (s3 : Int32) (σ : aH) : Lq G d M_40 (63, [some (.ref 1), some (.ref 7)], [.ref 94, .ref 1, .int s2, .int s3, .ref 7], σ) = aCI (Rn G d 39 [.ref 1, .ref 94] σ) fun v2 σ1 => Lq G d M_40 (66, [some (.ref 1), some (.ref 7)], [.int v2, .int s2, .int s3, .ref 7], σ1) :=
  (aUn_eq (tkd G.1 G.2) tmi (aRun (tkd G.1 G.2) tmi tmt d) M_40 [] 1 (63, [some (.ref 1), some (.ref 7)], [.ref 94, .ref 1, .int s2, .int s3, .ref 7], σ)).trans rfl
set_option maxRecDepth 20000 in
theorem q_40_3470 (G : Nat × (Nat → Int32)) (d : Nat) (s0 : Int32) (s1 : Int32) (s2 : Int32) (σ : aH) : Lq G d M_40 (66, [some (.ref 1), some (.ref 7)], [.int s0, .int s1, .int s2, .ref 7], σ) = if s0 = 0 then Lq G d M_40 (73, [some (.ref 1), some (.ref 7)], [.int s1, .int s2, .ref 7], σ) else Lq G d M_40 (69, [some (.ref 1), some (.ref 7)], [.int s1, .int s2, .ref 7], σ) :=
  (aUn_eq (tkd G.1 G.2) tmi (aRun (tkd G.1 G.2) tmi tmt d) M_40 [] 1 (66, [some (.ref 1), some (.ref 7)], [.int s0, .int s1, .int s2, .ref 7], σ)).trans rfl
set_option maxRecDepth 20000 in
theorem q_40_3471 (G : Nat × (Nat → Int32)) (d : Nat) (s0 : Int32) (s1 : Int32) (σ : aH) : Lq G d M_40 (73, [some (.ref 1), some (.ref 7)], [.int s0, .int s1, .ref 7], σ) = Lq G d M_40 (74, [some (.ref 1), some (.ref 7)], [.int (0 : Int32), .int s0, .int s1, .ref 7], σ) :=
  (aUn_eq (tkd G.1 G.2) tmi (aRun (tkd G.1 G.2) tmi tmt d) M_40 [] 1 (73, [some (.ref 1), some (.ref 7)], [.int s0, .int s1, .ref 7], σ)).trans rfl
set_option maxRecDepth 20000 in
theorem q_40_3472 (G : Nat × (Nat → Int32)) (d : Nat) (s0 : Int32) (s1 : Int32) (s2 : Int32) (σ : aH) : Lq G d M_40 (74, [some (.ref 1), some (.ref 7)], [.int s0, .int s1, .int s2, .ref 7], σ) = aCV (Rn G d 37 [.ref 7, .int s2, .int s1, .int s0] σ) fun σ1 => Lq G d M_40 (77, [some (.ref 1), some (.ref 7)], [], σ1) :=
  (aUn_eq (tkd G.1 G.2) tmi (aRun (tkd G.1 G.2) tmi tmt d) M_40 [] 1 (74, [some (.ref 1), some (.ref 7)], [.int s0, .int s1, .int s2, .ref 7], σ)).trans rfl
set_option maxRecDepth 20000 in
theorem q_40_3473 (G : Nat × (Nat → Int32)) (d : Nat)  (σ : aH) : Lq G d M_40 (77, [some (.ref 1), some (.ref 7)], [], σ) = Lq G d M_40 (89, [some (.ref 1), some (.ref 7)], [.int (60 : Int32), .int (600 : Int32), .int (0 : Int32), .ref 96, .ref 1, .int (5 : Int32), .int (1 : Int32), .ref 7], σ) :=
  (aUn_eq (tkd G.1 G.2) tmi (aRun (tkd G.1 G.2) tmi tmt d) M_40 [] 8 (77, [some (.ref 1), some (.ref 7)], [], σ)).trans rfl
set_option maxRecDepth 20000 in
theorem q_40_3474 (G : Nat × (Nat → Int32)) (d : Nat) (s0 : Int32) (s1 : Int32) (s2 : Int32) (s5 : Int32) (s6 : Int32) (σ : aH) : Lq G d M_40 (89, [some (.ref 1), some (.ref 7)], [.int s0, .int s1, .int s2, .ref 96, .ref 1, .int s5, .int s6, .ref 7], σ) = aCI (Rn G d 38 [.ref 1, .ref 96, .int s2, .int s1, .int s0] σ) fun v2 σ1 => Lq G d M_40 (92, [some (.ref 1), some (.ref 7)], [.int v2, .int s5, .int s6, .ref 7], σ1) :=
  (aUn_eq (tkd G.1 G.2) tmi (aRun (tkd G.1 G.2) tmi tmt d) M_40 [] 1 (89, [some (.ref 1), some (.ref 7)], [.int s0, .int s1, .int s2, .ref 96, .ref 1, .int s5, .int s6, .ref 7], σ)).trans rfl
set_option maxRecDepth 20000 in
theorem q_40_3475 (G : Nat × (Nat → Int32)) (d : Nat) (s0 : Int32) (s1 : Int32) (s2 : Int32) (σ : aH) : Lq G d M_40 (92, [some (.ref 1), some (.ref 7)], [.int s0, .int s1, .int s2, .ref 7], σ) = aCV (Rn G d 37 [.ref 7, .int s2, .int s1, .int s0] σ) fun σ1 => Lq G d M_40 (95, [some (.ref 1), some (.ref 7)], [], σ1) :=
  (aUn_eq (tkd G.1 G.2) tmi (aRun (tkd G.1 G.2) tmi tmt d) M_40 [] 1 (92, [some (.ref 1), some (.ref 7)], [.int s0, .int s1, .int s2, .ref 7], σ)).trans rfl
set_option maxRecDepth 20000 in
theorem q_40_3476 (G : Nat × (Nat → Int32)) (d : Nat)  (σ : aH) : Lq G d M_40 (95, [some (.ref 1), some (.ref 7)], [], σ) = some (.inl none, σ) :=
  (aUn_eq (tkd G.1 G.2) tmi (aRun (tkd G.1 G.2) tmi tmt d) M_40 [] 1 (95, [some (.ref 1), some (.ref 7)], [], σ)).trans rfl
set_option maxRecDepth 20000 in
theorem q_40_3477 (G : Nat × (Nat → Int32)) (d : Nat) (s0 : Int32) (s1 : Int32) (σ : aH) : Lq G d M_40 (69, [some (.ref 1), some (.ref 7)], [.int s0, .int s1, .ref 7], σ) = Lq G d M_40 (74, [some (.ref 1), some (.ref 7)], [.int (1 : Int32), .int s0, .int s1, .ref 7], σ) :=
  (aUn_eq (tkd G.1 G.2) tmi (aRun (tkd G.1 G.2) tmi tmt d) M_40 [] 2 (69, [some (.ref 1), some (.ref 7)], [.int s0, .int s1, .ref 7], σ)).trans rfl
set_option maxRecDepth 20000 in
theorem q_42_3478 (G : Nat × (Nat → Int32)) (d : Nat)  (σ : aH) : Lq G d M_42 (0, [some (.ref 1), some (.ref 7)], [], σ) = Lq G d M_42 (6, [some (.ref 1), some (.ref 7)], [.ref 98, .ref 1, .int (0 : Int32), .int (2 : Int32), .ref 7], σ) :=
  (aUn_eq (tkd G.1 G.2) tmi (aRun (tkd G.1 G.2) tmi tmt d) M_42 [] 5 (0, [some (.ref 1), some (.ref 7)], [], σ)).trans rfl
set_option maxRecDepth 20000 in
theorem q_42_3479 (G : Nat × (Nat → Int32)) (d : Nat) (s2 : Int32) (s3 : Int32) (σ : aH) : Lq G d M_42 (6, [some (.ref 1), some (.ref 7)], [.ref 98, .ref 1, .int s2, .int s3, .ref 7], σ) = aCI (Rn G d 35 [.ref 1, .ref 98] σ) fun v2 σ1 => Lq G d M_42 (9, [some (.ref 1), some (.ref 7)], [.int v2, .int s2, .int s3, .ref 7], σ1) :=
  (aUn_eq (tkd G.1 G.2) tmi (aRun (tkd G.1 G.2) tmi tmt d) M_42 [] 1 (6, [some (.ref 1), some (.ref 7)], [.ref 98, .ref 1, .int s2, .int s3, .ref 7], σ)).trans rfl
set_option maxRecDepth 20000 in
theorem q_42_3480 (G : Nat × (Nat → Int32)) (d : Nat) (s0 : Int32) (s1 : Int32) (s2 : Int32) (σ : aH) : Lq G d M_42 (9, [some (.ref 1), some (.ref 7)], [.int s0, .int s1, .int s2, .ref 7], σ) = aCV (Rn G d 37 [.ref 7, .int s2, .int s1, .int s0] σ) fun σ1 => Lq G d M_42 (12, [some (.ref 1), some (.ref 7)], [], σ1) :=
  (aUn_eq (tkd G.1 G.2) tmi (aRun (tkd G.1 G.2) tmi tmt d) M_42 [] 1 (9, [some (.ref 1), some (.ref 7)], [.int s0, .int s1, .int s2, .ref 7], σ)).trans rfl
set_option maxRecDepth 20000 in
theorem q_42_3481 (G : Nat × (Nat → Int32)) (d : Nat)  (σ : aH) : Lq G d M_42 (12, [some (.ref 1), some (.ref 7)], [], σ) = Lq G d M_42 (25, [some (.ref 1), some (.ref 7)], [.int (300 : Int32), .int (1000 : Int32), .int (1 : Int32), .ref 100, .ref 1, .int (1 : Int32), .int (2 : Int32), .ref 7], σ) :=
  (aUn_eq (tkd G.1 G.2) tmi (aRun (tkd G.1 G.2) tmi tmt d) M_42 [] 8 (12, [some (.ref 1), some (.ref 7)], [], σ)).trans rfl
set_option maxRecDepth 20000 in
theorem q_42_3482 (G : Nat × (Nat → Int32)) (d : Nat) (s0 : Int32) (s1 : Int32) (s2 : Int32) (s5 : Int32) (s6 : Int32) (σ : aH) : Lq G d M_42 (25, [some (.ref 1), some (.ref 7)], [.int s0, .int s1, .int s2, .ref 100, .ref 1, .int s5, .int s6, .ref 7], σ) = aCI (Rn G d 38 [.ref 1, .ref 100, .int s2, .int s1, .int s0] σ) fun v2 σ1 => Lq G d M_42 (28, [some (.ref 1), some (.ref 7)], [.int v2, .int s5, .int s6, .ref 7], σ1) :=
  (aUn_eq (tkd G.1 G.2) tmi (aRun (tkd G.1 G.2) tmi tmt d) M_42 [] 1 (25, [some (.ref 1), some (.ref 7)], [.int s0, .int s1, .int s2, .ref 100, .ref 1, .int s5, .int s6, .ref 7], σ)).trans rfl
set_option maxRecDepth 20000 in
theorem q_42_3483 (G : Nat × (Nat → Int32)) (d : Nat) (s0 : Int32) (s1 : Int32) (s2 : Int32) (σ : aH) : Lq G d M_42 (28, [some (.ref 1), some (.ref 7)], [.int s0, .int s1, .int s2, .ref 7], σ) = aCV (Rn G d 37 [.ref 7, .int s2, .int s1, .int s0] σ) fun σ1 => Lq G d M_42 (31, [some (.ref 1), some (.ref 7)], [], σ1) :=
  (aUn_eq (tkd G.1 G.2) tmi (aRun (tkd G.1 G.2) tmi tmt d) M_42 [] 1 (28, [some (.ref 1), some (.ref 7)], [.int s0, .int s1, .int s2, .ref 7], σ)).trans rfl
set_option maxRecDepth 20000 in
theorem q_42_3484 (G : Nat × (Nat → Int32)) (d : Nat)  (σ : aH) : Lq G d M_42 (31, [some (.ref 1), some (.ref 7)], [], σ) = Lq G d M_42 (42, [some (.ref 1), some (.ref 7)], [.int (20 : Int32), .int (99 : Int32), .int (1 : Int32), .ref 102, .ref 1, .int (2 : Int32), .int (2 : Int32), .ref 7], σ) :=
  (aUn_eq (tkd G.1 G.2) tmi (aRun (tkd G.1 G.2) tmi tmt d) M_42 [] 8 (31, [some (.ref 1), some (.ref 7)], [], σ)).trans rfl
set_option maxRecDepth 20000 in
theorem q_42_3485 (G : Nat × (Nat → Int32)) (d : Nat) (s0 : Int32) (s1 : Int32) (s2 : Int32) (s5 : Int32) (s6 : Int32) (σ : aH) : Lq G d M_42 (42, [some (.ref 1), some (.ref 7)], [.int s0, .int s1, .int s2, .ref 102, .ref 1, .int s5, .int s6, .ref 7], σ) = aCI (Rn G d 38 [.ref 1, .ref 102, .int s2, .int s1, .int s0] σ) fun v2 σ1 => Lq G d M_42 (45, [some (.ref 1), some (.ref 7)], [.int v2, .int s5, .int s6, .ref 7], σ1) :=
  (aUn_eq (tkd G.1 G.2) tmi (aRun (tkd G.1 G.2) tmi tmt d) M_42 [] 1 (42, [some (.ref 1), some (.ref 7)], [.int s0, .int s1, .int s2, .ref 102, .ref 1, .int s5, .int s6, .ref 7], σ)).trans rfl
set_option maxRecDepth 20000 in
theorem q_42_3486 (G : Nat × (Nat → Int32)) (d : Nat) (s0 : Int32) (s1 : Int32) (s2 : Int32) (σ : aH) : Lq G d M_42 (45, [some (.ref 1), some (.ref 7)], [.int s0, .int s1, .int s2, .ref 7], σ) = aCV (Rn G d 37 [.ref 7, .int s2, .int s1, .int s0] σ) fun σ1 => Lq G d M_42 (48, [some (.ref 1), some (.ref 7)], [], σ1) :=
  (aUn_eq (tkd G.1 G.2) tmi (aRun (tkd G.1 G.2) tmi tmt d) M_42 [] 1 (45, [some (.ref 1), some (.ref 7)], [.int s0, .int s1, .int s2, .ref 7], σ)).trans rfl
set_option maxRecDepth 20000 in
theorem q_42_3487 (G : Nat × (Nat → Int32)) (d : Nat)  (σ : aH) : Lq G d M_42 (48, [some (.ref 1), some (.ref 7)], [], σ) = Lq G d M_42 (60, [some (.ref 1), some (.ref 7)], [.int (100 : Int32), .int (1000 : Int32), .int (0 : Int32), .ref 104, .ref 1, .int (3 : Int32), .int (2 : Int32), .ref 7], σ) :=
  (aUn_eq (tkd G.1 G.2) tmi (aRun (tkd G.1 G.2) tmi tmt d) M_42 [] 8 (48, [some (.ref 1), some (.ref 7)], [], σ)).trans rfl
set_option maxRecDepth 20000 in
theorem q_42_3488 (G : Nat × (Nat → Int32)) (d : Nat) (s0 : Int32) (s1 : Int32) (s2 : Int32) (s5 : Int32) (s6 : Int32) (σ : aH) : Lq G d M_42 (60, [some (.ref 1), some (.ref 7)], [.int s0, .int s1, .int s2, .ref 104, .ref 1, .int s5, .int s6, .ref 7], σ) = aCI (Rn G d 38 [.ref 1, .ref 104, .int s2, .int s1, .int s0] σ) fun v2 σ1 => Lq G d M_42 (63, [some (.ref 1), some (.ref 7)], [.int v2, .int s5, .int s6, .ref 7], σ1) :=
  (aUn_eq (tkd G.1 G.2) tmi (aRun (tkd G.1 G.2) tmi tmt d) M_42 [] 1 (60, [some (.ref 1), some (.ref 7)], [.int s0, .int s1, .int s2, .ref 104, .ref 1, .int s5, .int s6, .ref 7], σ)).trans rfl
set_option maxRecDepth 20000 in
theorem q_42_3489 (G : Nat × (Nat → Int32)) (d : Nat) (s0 : Int32) (s1 : Int32) (s2 : Int32) (σ : aH) : Lq G d M_42 (63, [some (.ref 1), some (.ref 7)], [.int s0, .int s1, .int s2, .ref 7], σ) = aCV (Rn G d 37 [.ref 7, .int s2, .int s1, .int s0] σ) fun σ1 => Lq G d M_42 (66, [some (.ref 1), some (.ref 7)], [], σ1) :=
  (aUn_eq (tkd G.1 G.2) tmi (aRun (tkd G.1 G.2) tmi tmt d) M_42 [] 1 (63, [some (.ref 1), some (.ref 7)], [.int s0, .int s1, .int s2, .ref 7], σ)).trans rfl
set_option maxRecDepth 20000 in
theorem q_42_3490 (G : Nat × (Nat → Int32)) (d : Nat)  (σ : aH) : Lq G d M_42 (66, [some (.ref 1), some (.ref 7)], [], σ) = Lq G d M_42 (79, [some (.ref 1), some (.ref 7)], [.int (300 : Int32), .int (1000 : Int32), .int (0 : Int32), .ref 106, .ref 1, .int (4 : Int32), .int (2 : Int32), .ref 7], σ) :=
  (aUn_eq (tkd G.1 G.2) tmi (aRun (tkd G.1 G.2) tmi tmt d) M_42 [] 8 (66, [some (.ref 1), some (.ref 7)], [], σ)).trans rfl
set_option maxRecDepth 20000 in
theorem q_42_3491 (G : Nat × (Nat → Int32)) (d : Nat) (s0 : Int32) (s1 : Int32) (s2 : Int32) (s5 : Int32) (s6 : Int32) (σ : aH) : Lq G d M_42 (79, [some (.ref 1), some (.ref 7)], [.int s0, .int s1, .int s2, .ref 106, .ref 1, .int s5, .int s6, .ref 7], σ) = aCI (Rn G d 38 [.ref 1, .ref 106, .int s2, .int s1, .int s0] σ) fun v2 σ1 => Lq G d M_42 (82, [some (.ref 1), some (.ref 7)], [.int v2, .int s5, .int s6, .ref 7], σ1) :=
  (aUn_eq (tkd G.1 G.2) tmi (aRun (tkd G.1 G.2) tmi tmt d) M_42 [] 1 (79, [some (.ref 1), some (.ref 7)], [.int s0, .int s1, .int s2, .ref 106, .ref 1, .int s5, .int s6, .ref 7], σ)).trans rfl
set_option maxRecDepth 20000 in
theorem q_42_3492 (G : Nat × (Nat → Int32)) (d : Nat) (s0 : Int32) (s1 : Int32) (s2 : Int32) (σ : aH) : Lq G d M_42 (82, [some (.ref 1), some (.ref 7)], [.int s0, .int s1, .int s2, .ref 7], σ) = aCV (Rn G d 37 [.ref 7, .int s2, .int s1, .int s0] σ) fun σ1 => Lq G d M_42 (85, [some (.ref 1), some (.ref 7)], [], σ1) :=
  (aUn_eq (tkd G.1 G.2) tmi (aRun (tkd G.1 G.2) tmi tmt d) M_42 [] 1 (82, [some (.ref 1), some (.ref 7)], [.int s0, .int s1, .int s2, .ref 7], σ)).trans rfl
set_option maxRecDepth 20000 in
theorem q_42_3493 (G : Nat × (Nat → Int32)) (d : Nat)  (σ : aH) : Lq G d M_42 (85, [some (.ref 1), some (.ref 7)], [], σ) = some (.inl none, σ) :=
  (aUn_eq (tkd G.1 G.2) tmi (aRun (tkd G.1 G.2) tmi tmt d) M_42 [] 1 (85, [some (.ref 1), some (.ref 7)], [], σ)).trans rfl
set_option maxRecDepth 20000 in
theorem q_35_3494 (G : Nat × (Nat → Int32)) (d : Nat) (rx1 : Nat) (σ : aH) : Lq G d M_35 (0, [some (.ref 1), some (.ref rx1), none], [], σ) = Lq G d M_35 (2, [some (.ref 1), some (.ref rx1), none], [.ref rx1, .ref 1], σ) :=
  (aUn_eq (tkd G.1 G.2) tmi (aRun (tkd G.1 G.2) tmi tmt d) M_35 [] 2 (0, [some (.ref 1), some (.ref rx1), none], [], σ)).trans rfl
set_option maxRecDepth 20000 in
theorem q_35_3495 (G : Nat × (Nat → Int32)) (d : Nat) (rx1 : Nat) (rs0 : Nat) (σ : aH) : Lq G d M_35 (2, [some (.ref 1), some (.ref rx1), none], [.ref rs0, .ref 1], σ) = aCI (Rn G d 25 [.ref 1, .ref rs0] σ) fun v2 σ1 => Lq G d M_35 (5, [some (.ref 1), some (.ref rx1), none], [.int v2], σ1) :=
  (aUn_eq (tkd G.1 G.2) tmi (aRun (tkd G.1 G.2) tmi tmt d) M_35 [] 1 (2, [some (.ref 1), some (.ref rx1), none], [.ref rs0, .ref 1], σ)).trans rfl
set_option maxRecDepth 20000 in
theorem q_35_3496 (G : Nat × (Nat → Int32)) (d : Nat) (rx1 : Nat) (s0 : Int32) (σ : aH) : Lq G d M_35 (5, [some (.ref 1), some (.ref rx1), none], [.int s0], σ) = Lq G d M_35 (7, [some (.ref 1), some (.ref rx1), some (.int s0)], [.int s0], σ) :=
  (aUn_eq (tkd G.1 G.2) tmi (aRun (tkd G.1 G.2) tmi tmt d) M_35 [] 2 (5, [some (.ref 1), some (.ref rx1), none], [.int s0], σ)).trans rfl
set_option maxRecDepth 20000 in
theorem q_35_3497 (G : Nat × (Nat → Int32)) (d : Nat) (rx1 : Nat) (x2 : Int32) (s0 : Int32) (σ : aH) : Lq G d M_35 (7, [some (.ref 1), some (.ref rx1), some (.int x2)], [.int s0], σ) = if 0 ≤ s0 then Lq G d M_35 (15, [some (.ref 1), some (.ref rx1), some (.int x2)], [], σ) else Lq G d M_35 (10, [some (.ref 1), some (.ref rx1), some (.int x2)], [], σ) :=
  (aUn_eq (tkd G.1 G.2) tmi (aRun (tkd G.1 G.2) tmi tmt d) M_35 [] 1 (7, [some (.ref 1), some (.ref rx1), some (.int x2)], [.int s0], σ)).trans rfl
set_option maxRecDepth 20000 in
theorem q_35_3498 (G : Nat × (Nat → Int32)) (d : Nat) (rx1 : Nat) (x2 : Int32) (σ : aH) : Lq G d M_35 (15, [some (.ref 1), some (.ref rx1), some (.int x2)], [], σ) = Lq G d M_35 (16, [some (.ref 1), some (.ref rx1), some (.int x2)], [.ref 1], σ) :=
  (aUn_eq (tkd G.1 G.2) tmi (aRun (tkd G.1 G.2) tmi tmt d) M_35 [] 1 (15, [some (.ref 1), some (.ref rx1), some (.int x2)], [], σ)).trans rfl
set_option maxRecDepth 20000 in
theorem q_35_3499 (G : Nat × (Nat → Int32)) (d : Nat) (rx1 : Nat) (x2 : Int32) (σ : aH) : Lq G d M_35 (16, [some (.ref 1), some (.ref rx1), some (.int x2)], [.ref 1], σ) = aCV (Rn G d 8 [.ref 1] σ) fun σ1 => Lq G d M_35 (19, [some (.ref 1), some (.ref rx1), some (.int x2)], [], σ1) :=
  (aUn_eq (tkd G.1 G.2) tmi (aRun (tkd G.1 G.2) tmi tmt d) M_35 [] 1 (16, [some (.ref 1), some (.ref rx1), some (.int x2)], [.ref 1], σ)).trans rfl
set_option maxRecDepth 20000 in
theorem q_35_3500 (G : Nat × (Nat → Int32)) (d : Nat) (rx1 : Nat) (x2 : Int32) (σ : aH) : Lq G d M_35 (19, [some (.ref 1), some (.ref rx1), some (.int x2)], [], σ) = Lq G d M_35 (20, [some (.ref 1), some (.ref rx1), some (.int x2)], [.int x2], σ) :=
  (aUn_eq (tkd G.1 G.2) tmi (aRun (tkd G.1 G.2) tmi tmt d) M_35 [] 1 (19, [some (.ref 1), some (.ref rx1), some (.int x2)], [], σ)).trans rfl
set_option maxRecDepth 20000 in
theorem q_35_3501 (G : Nat × (Nat → Int32)) (d : Nat) (rx1 : Nat) (x2 : Int32) (s0 : Int32) (σ : aH) : Lq G d M_35 (20, [some (.ref 1), some (.ref rx1), some (.int x2)], [.int s0], σ) = some (.inl (some (.int s0)), σ) :=
  (aUn_eq (tkd G.1 G.2) tmi (aRun (tkd G.1 G.2) tmi tmt d) M_35 [] 1 (20, [some (.ref 1), some (.ref rx1), some (.int x2)], [.int s0], σ)).trans rfl
set_option maxRecDepth 20000 in
theorem q_35_3502 (G : Nat × (Nat → Int32)) (d : Nat) (rx1 : Nat) (x2 : Int32) (σ : aH) : Lq G d M_35 (10, [some (.ref 1), some (.ref rx1), some (.int x2)], [], σ) = Lq G d M_35 (12, [some (.ref 1), some (.ref rx1), some (.int x2)], [.int (1 : Int32), .ref 1], σ) :=
  (aUn_eq (tkd G.1 G.2) tmi (aRun (tkd G.1 G.2) tmi tmt d) M_35 [] 2 (10, [some (.ref 1), some (.ref rx1), some (.int x2)], [], σ)).trans rfl
set_option maxRecDepth 20000 in
theorem q_35_3503 (G : Nat × (Nat → Int32)) (d : Nat) (rx1 : Nat) (x2 : Int32) (s0 : Int32) (σ : aH) : Lq G d M_35 (12, [some (.ref 1), some (.ref rx1), some (.int x2)], [.int s0, .ref 1], σ) = aCV (Rn G d 30 [.ref 1, .int s0] σ) fun σ1 => Lq G d M_35 (15, [some (.ref 1), some (.ref rx1), some (.int x2)], [], σ1) :=
  (aUn_eq (tkd G.1 G.2) tmi (aRun (tkd G.1 G.2) tmi tmt d) M_35 [] 1 (12, [some (.ref 1), some (.ref rx1), some (.int x2)], [.int s0, .ref 1], σ)).trans rfl
set_option maxRecDepth 20000 in
theorem q_37_3504 (G : Nat × (Nat → Int32)) (d : Nat) (x1 : Int32) (x2 : Int32) (x3 : Int32) (σ : aH) : Lq G d M_37 (0, [some (.ref 7), some (.int x1), some (.int x2), some (.int x3)], [], σ) = Lq G d M_37 (8, [some (.ref 7), some (.int x1), some (.int x2), some (.int x3)], [.int x1, .ref 64, .ref 9], σ) :=
  (aUn_eq (tkd G.1 G.2) tmi (aRun (tkd G.1 G.2) tmi tmt d) M_37 [] 4 (0, [some (.ref 7), some (.int x1), some (.int x2), some (.int x3)], [], σ)).trans rfl
set_option maxRecDepth 20000 in
theorem q_37_3505 (G : Nat × (Nat → Int32)) (d : Nat) (x1 : Int32) (x2 : Int32) (x3 : Int32) (s0 : Int32) (σ : aH) : Lq G d M_37 (8, [some (.ref 7), some (.int x1), some (.int x2), some (.int x3)], [.int s0, .ref 64, .ref 9], σ) = aCI (Rn G d 32 [.ref 64, .int s0] σ) fun v2 σ1 => Lq G d M_37 (11, [some (.ref 7), some (.int x1), some (.int x2), some (.int x3)], [.int v2, .ref 9], σ1) :=
  (aUn_eq (tkd G.1 G.2) tmi (aRun (tkd G.1 G.2) tmi tmt d) M_37 [] 1 (8, [some (.ref 7), some (.int x1), some (.int x2), some (.int x3)], [.int s0, .ref 64, .ref 9], σ)).trans rfl
set_option maxRecDepth 20000 in
theorem q_37_3506 (G : Nat × (Nat → Int32)) (d : Nat) (x1 : Int32) (x2 : Int32) (x3 : Int32) (s0 : Int32) (σ : aH) : Lq G d M_37 (11, [some (.ref 7), some (.int x1), some (.int x2), some (.int x3)], [.int s0, .ref 9], σ) = Lq G d M_37 (16, [some (.ref 7), some (.int x1), some (.int x2), some (.int x3)], [.int x1, .ref 8, .int s0, .ref 9], σ) :=
  (aUn_eq (tkd G.1 G.2) tmi (aRun (tkd G.1 G.2) tmi tmt d) M_37 [] 3 (11, [some (.ref 7), some (.int x1), some (.int x2), some (.int x3)], [.int s0, .ref 9], σ)).trans rfl
set_option maxRecDepth 20000 in
theorem q_37_3507 (G : Nat × (Nat → Int32)) (d : Nat) (x1 : Int32) (x2 : Int32) (x3 : Int32) (s0 : Int32) (s2 : Int32) (σ : aH) : Lq G d M_37 (16, [some (.ref 7), some (.int x1), some (.int x2), some (.int x3)], [.int s0, .ref 8, .int s2, .ref 9], σ) = aCI (Rn G d 32 [.ref 8, .int s0] σ) fun v2 σ1 => Lq G d M_37 (19, [some (.ref 7), some (.int x1), some (.int x2), some (.int x3)], [.int v2, .int s2, .ref 9], σ1) :=
  (aUn_eq (tkd G.1 G.2) tmi (aRun (tkd G.1 G.2) tmi tmt d) M_37 [] 1 (16, [some (.ref 7), some (.int x1), some (.int x2), some (.int x3)], [.int s0, .ref 8, .int s2, .ref 9], σ)).trans rfl
set_option maxRecDepth 20000 in
theorem q_37_3508 (G : Nat × (Nat → Int32)) (d : Nat) (x1 : Int32) (x2 : Int32) (x3 : Int32) (s0 : Int32) (s1 : Int32) (σ : aH) : Lq G d M_37 (19, [some (.ref 7), some (.int x1), some (.int x2), some (.int x3)], [.int s0, .int s1, .ref 9], σ) = Lq G d M_37 (23, [some (.ref 7), some (.int x1), some (.int x2), some (.int x3)], [.int x1, .ref 66, .int s0, .int s1, .ref 9], σ) :=
  (aUn_eq (tkd G.1 G.2) tmi (aRun (tkd G.1 G.2) tmi tmt d) M_37 [] 2 (19, [some (.ref 7), some (.int x1), some (.int x2), some (.int x3)], [.int s0, .int s1, .ref 9], σ)).trans rfl
set_option maxRecDepth 20000 in
theorem q_37_3509 (G : Nat × (Nat → Int32)) (d : Nat) (x1 : Int32) (x2 : Int32) (x3 : Int32) (s0 : Int32) (s2 : Int32) (s3 : Int32) (σ : aH) : Lq G d M_37 (23, [some (.ref 7), some (.int x1), some (.int x2), some (.int x3)], [.int s0, .ref 66, .int s2, .int s3, .ref 9], σ) = aCI (Rn G d 32 [.ref 66, .int s0] σ) fun v2 σ1 => Lq G d M_37 (26, [some (.ref 7), some (.int x1), some (.int x2), some (.int x3)], [.int v2, .int s2, .int s3, .ref 9], σ1) :=
  (aUn_eq (tkd G.1 G.2) tmi (aRun (tkd G.1 G.2) tmi tmt d) M_37 [] 1 (23, [some (.ref 7), some (.int x1), some (.int x2), some (.int x3)], [.int s0, .ref 66, .int s2, .int s3, .ref 9], σ)).trans rfl
set_option maxRecDepth 20000 in
theorem q_37_3510 (G : Nat × (Nat → Int32)) (d : Nat) (x1 : Int32) (x2 : Int32) (x3 : Int32) (s0 : Int32) (s1 : Int32) (s2 : Int32) (σ : aH) : Lq G d M_37 (26, [some (.ref 7), some (.int x1), some (.int x2), some (.int x3)], [.int s0, .int s1, .int s2, .ref 9], σ) = Lq G d M_37 (31, [some (.ref 7), some (.int x1), some (.int x2), some (.int x3)], [.int x3, .int ((s2 + (s1 * s0)) + x2), .ref 9], σ) :=
  (aUn_eq (tkd G.1 G.2) tmi (aRun (tkd G.1 G.2) tmi tmt d) M_37 [] 5 (26, [some (.ref 7), some (.int x1), some (.int x2), some (.int x3)], [.int s0, .int s1, .int s2, .ref 9], σ)).trans rfl
set_option maxRecDepth 20000 in
theorem q_37_3511 (G : Nat × (Nat → Int32)) (d : Nat) (x1 : Int32) (x2 : Int32) (x3 : Int32) (s0 : Int32) (s1 : Int32) (σ : aH) : Lq G d M_37 (31, [some (.ref 7), some (.int x1), some (.int x2), some (.int x3)], [.int s0, .int s1, .ref 9], σ) = aCV (Rn G d 24 [.ref 9, .int s1, .int s0] σ) fun σ1 => Lq G d M_37 (34, [some (.ref 7), some (.int x1), some (.int x2), some (.int x3)], [], σ1) :=
  (aUn_eq (tkd G.1 G.2) tmi (aRun (tkd G.1 G.2) tmi tmt d) M_37 [] 1 (31, [some (.ref 7), some (.int x1), some (.int x2), some (.int x3)], [.int s0, .int s1, .ref 9], σ)).trans rfl
set_option maxRecDepth 20000 in
theorem q_37_3512 (G : Nat × (Nat → Int32)) (d : Nat) (x1 : Int32) (x2 : Int32) (x3 : Int32) (σ : aH) : Lq G d M_37 (34, [some (.ref 7), some (.int x1), some (.int x2), some (.int x3)], [], σ) = some (.inl none, σ) :=
  (aUn_eq (tkd G.1 G.2) tmi (aRun (tkd G.1 G.2) tmi tmt d) M_37 [] 1 (34, [some (.ref 7), some (.int x1), some (.int x2), some (.int x3)], [], σ)).trans rfl
set_option maxRecDepth 20000 in
theorem q_43_3513 (G : Nat × (Nat → Int32)) (d : Nat)  (σ : aH) : Lq G d M_43 (0, [some (.ref 11), some (.ref 1), some (.ref 7), none], [], σ) = Lq G d M_43 (20, [some (.ref 11), some (.ref 1), some (.ref 7), none], [], (aSI (aSI (aSI (aSI σ 11 1 (0 : Int32)) 11 2 (0 : Int32)) 11 3 (0 : Int32)) 11 4 (1 : Int32))) :=
  (aUn_eq (tkd G.1 G.2) tmi (aRun (tkd G.1 G.2) tmi tmt d) M_43 [] 12 (0, [some (.ref 11), some (.ref 1), some (.ref 7), none], [], σ)).trans rfl
set_option maxRecDepth 20000 in
theorem q_43_3514 (G : Nat × (Nat → Int32)) (d : Nat)  (σ : aH) : Lq G d M_43 (20, [some (.ref 11), some (.ref 1), some (.ref 7), none], [], σ) = Lq G d M_43 (27, [some (.ref 11), some (.ref 1), some (.ref 7), some (.int (0 : Int32))], [], (aSI σ 11 5 (1 : Int32))) :=
  (aUn_eq (tkd G.1 G.2) tmi (aRun (tkd G.1 G.2) tmi tmt d) M_43 [] 5 (20, [some (.ref 11), some (.ref 1), some (.ref 7), none], [], σ)).trans rfl
set_option maxRecDepth 20000 in
theorem q_43_3515 (G : Nat × (Nat → Int32)) (d : Nat) (x3 : Int32) (σ : aH) : Lq G d M_43 (27, [some (.ref 11), some (.ref 1), some (.ref 7), some (.int x3)], [], σ) = Lq G d M_43 (31, [some (.ref 11), some (.ref 1), some (.ref 7), some (.int x3)], [.int (700 : Int32), .int x3], σ) :=
  (aUn_eq (tkd G.1 G.2) tmi (aRun (tkd G.1 G.2) tmi tmt d) M_43 [] 2 (27, [some (.ref 11), some (.ref 1), some (.ref 7), some (.int x3)], [], σ)).trans rfl
set_option maxRecDepth 20000 in
theorem q_43_3516 (G : Nat × (Nat → Int32)) (d : Nat) (x3 : Int32) (s0 : Int32) (s1 : Int32) (σ : aH) : Lq G d M_43 (31, [some (.ref 11), some (.ref 1), some (.ref 7), some (.int x3)], [.int s0, .int s1], σ) = if s0 ≤ s1 then Lq G d M_43 (81, [some (.ref 11), some (.ref 1), some (.ref 7), some (.int x3)], [], σ) else Lq G d M_43 (34, [some (.ref 11), some (.ref 1), some (.ref 7), some (.int x3)], [], σ) :=
  (aUn_eq (tkd G.1 G.2) tmi (aRun (tkd G.1 G.2) tmi tmt d) M_43 [] 1 (31, [some (.ref 11), some (.ref 1), some (.ref 7), some (.int x3)], [.int s0, .int s1], σ)).trans rfl
set_option maxRecDepth 20000 in
theorem q_43_3517 (G : Nat × (Nat → Int32)) (d : Nat) (x3 : Int32) (σ : aH) : Lq G d M_43 (81, [some (.ref 11), some (.ref 1), some (.ref 7), some (.int x3)], [], σ) = Lq G d M_43 (84, [some (.ref 11), some (.ref 1), some (.ref 7), some (.int x3)], [.int (1 : Int32), .ref 7, .ref 11], σ) :=
  (aUn_eq (tkd G.1 G.2) tmi (aRun (tkd G.1 G.2) tmi tmt d) M_43 [] 3 (81, [some (.ref 11), some (.ref 1), some (.ref 7), some (.int x3)], [], σ)).trans rfl
set_option maxRecDepth 20000 in
theorem q_43_3518 (G : Nat × (Nat → Int32)) (d : Nat) (x3 : Int32) (s0 : Int32) (σ : aH) : Lq G d M_43 (84, [some (.ref 11), some (.ref 1), some (.ref 7), some (.int x3)], [.int s0, .ref 7, .ref 11], σ) = aCV (Rn G d 52 [.ref 11, .ref 7, .int s0] σ) fun σ1 => Lq G d M_43 (87, [some (.ref 11), some (.ref 1), some (.ref 7), some (.int x3)], [], σ1) :=
  (aUn_eq (tkd G.1 G.2) tmi (aRun (tkd G.1 G.2) tmi tmt d) M_43 [] 1 (84, [some (.ref 11), some (.ref 1), some (.ref 7), some (.int x3)], [.int s0, .ref 7, .ref 11], σ)).trans rfl
set_option maxRecDepth 20000 in
theorem q_43_3519 (G : Nat × (Nat → Int32)) (d : Nat) (x3 : Int32) (σ : aH) : Lq G d M_43 (87, [some (.ref 11), some (.ref 1), some (.ref 7), some (.int x3)], [], σ) = some (.inl none, σ) :=
  (aUn_eq (tkd G.1 G.2) tmi (aRun (tkd G.1 G.2) tmi tmt d) M_43 [] 1 (87, [some (.ref 11), some (.ref 1), some (.ref 7), some (.int x3)], [], σ)).trans rfl
set_option maxRecDepth 20000 in
theorem q_43_3520 (G : Nat × (Nat → Int32)) (d : Nat) (x3 : Int32) (σ : aH) : Lq G d M_43 (34, [some (.ref 11), some (.ref 1), some (.ref 7), some (.int x3)], [], σ) = Lq G d M_43 (38, [some (.ref 11), some (.ref 1), some (.ref 7), some (.int x3)], [.int (σ.1 1 2)], σ) :=
  (aUn_eq (tkd G.1 G.2) tmi (aRun (tkd G.1 G.2) tmi tmt d) M_43 [] 2 (34, [some (.ref 11), some (.ref 1), some (.ref 7), some (.int x3)], [], σ)).trans rfl
set_option maxRecDepth 20000 in
theorem q_43_3521 (G : Nat × (Nat → Int32)) (d : Nat) (x3 : Int32) (s0 : Int32) (σ : aH) : Lq G d M_43 (38, [some (.ref 11), some (.ref 1), some (.ref 7), some (.int x3)], [.int s0], σ) = if s0 = 0 then Lq G d M_43 (41, [some (.ref 11), some (.ref 1), some (.ref 7), some (.int x3)], [], σ) else Lq G d M_43 (81, [some (.ref 11), some (.ref 1), some (.ref 7), some (.int x3)], [], σ) :=
  (aUn_eq (tkd G.1 G.2) tmi (aRun (tkd G.1 G.2) tmi tmt d) M_43 [] 1 (38, [some (.ref 11), some (.ref 1), some (.ref 7), some (.int x3)], [.int s0], σ)).trans rfl
set_option maxRecDepth 20000 in
theorem q_43_3522 (G : Nat × (Nat → Int32)) (d : Nat) (x3 : Int32) (σ : aH) : Lq G d M_43 (41, [some (.ref 11), some (.ref 1), some (.ref 7), some (.int x3)], [], σ) = Lq G d M_43 (43, [some (.ref 11), some (.ref 1), some (.ref 7), some (.int x3)], [.ref 1, .ref 11], σ) :=
  (aUn_eq (tkd G.1 G.2) tmi (aRun (tkd G.1 G.2) tmi tmt d) M_43 [] 2 (41, [some (.ref 11), some (.ref 1), some (.ref 7), some (.int x3)], [], σ)).trans rfl
set_option maxRecDepth 20000 in
theorem q_43_3523 (G : Nat × (Nat → Int32)) (d : Nat) (x3 : Int32) (σ : aH) : Lq G d M_43 (43, [some (.ref 11), some (.ref 1), some (.ref 7), some (.int x3)], [.ref 1, .ref 11], σ) = aCI (Rn G d 44 [.ref 11, .ref 1] σ) fun v2 σ1 => Lq G d M_43 (46, [some (.ref 11), some (.ref 1), some (.ref 7), some (.int x3)], [.int v2], σ1) :=
  (aUn_eq (tkd G.1 G.2) tmi (aRun (tkd G.1 G.2) tmi tmt d) M_43 [] 1 (43, [some (.ref 11), some (.ref 1), some (.ref 7), some (.int x3)], [.ref 1, .ref 11], σ)).trans rfl
set_option maxRecDepth 20000 in
theorem q_43_3524 (G : Nat × (Nat → Int32)) (d : Nat) (x3 : Int32) (s0 : Int32) (σ : aH) : Lq G d M_43 (46, [some (.ref 11), some (.ref 1), some (.ref 7), some (.int x3)], [.int s0], σ) = if s0 = 0 then Lq G d M_43 (49, [some (.ref 11), some (.ref 1), some (.ref 7), some (.int x3)], [], σ) else Lq G d M_43 (81, [some (.ref 11), some (.ref 1), some (.ref 7), some (.int x3)], [], σ) :=
  (aUn_eq (tkd G.1 G.2) tmi (aRun (tkd G.1 G.2) tmi tmt d) M_43 [] 1 (46, [some (.ref 11), some (.ref 1), some (.ref 7), some (.int x3)], [.int s0], σ)).trans rfl
set_option maxRecDepth 20000 in
theorem q_43_3525 (G : Nat × (Nat → Int32)) (d : Nat) (x3 : Int32) (σ : aH) : Lq G d M_43 (49, [some (.ref 11), some (.ref 1), some (.ref 7), some (.int x3)], [], σ) = Lq G d M_43 (53, [some (.ref 11), some (.ref 1), some (.ref 7), some (.int x3)], [.int (σ.1 11 4)], σ) :=
  (aUn_eq (tkd G.1 G.2) tmi (aRun (tkd G.1 G.2) tmi tmt d) M_43 [] 2 (49, [some (.ref 11), some (.ref 1), some (.ref 7), some (.int x3)], [], σ)).trans rfl
