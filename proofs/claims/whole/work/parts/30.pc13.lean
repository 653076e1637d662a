/-! ===== the methods in pieces, as equations (by wip/gen/emit_eqs2.py) ===== -/
set_option maxRecDepth 20000 in
theorem q_43_3526 (G : Nat × (Nat → Int32)) (d : Nat) (x3 : Int32) (s0 : Int32) (σ : aH) : Lq G d M_43 (53, [some (.ref 11), some (.ref 1), some (.ref 7), some (.int x3)], [.int s0], σ) = if s0 = 0 then Lq G d M_43 (65, [some (.ref 11), some (.ref 1), some (.ref 7), some (.int x3)], [], σ) else Lq G d M_43 (56, [some (.ref 11), some (.ref 1), some (.ref 7), some (.int x3)], [], σ) :=
  (aUn_eq (tkd G.1 G.2) tmi (aRun (tkd G.1 G.2) tmi tmt d) M_43 [] 1 (53, [some (.ref 11), some (.ref 1), some (.ref 7), some (.int x3)], [.int s0], σ)).trans rfl
set_option maxRecDepth 20000 in
theorem q_43_3527 (G : Nat × (Nat → Int32)) (d : Nat) (x3 : Int32) (σ : aH) : Lq G d M_43 (65, [some (.ref 11), some (.ref 1), some (.ref 7), some (.int x3)], [], σ) = Lq G d M_43 (68, [some (.ref 11), some (.ref 1), some (.ref 7), some (.int x3)], [.ref 7, .ref 1, .ref 11], σ) :=
  (aUn_eq (tkd G.1 G.2) tmi (aRun (tkd G.1 G.2) tmi tmt d) M_43 [] 3 (65, [some (.ref 11), some (.ref 1), some (.ref 7), some (.int x3)], [], σ)).trans rfl
set_option maxRecDepth 20000 in
theorem q_43_3528 (G : Nat × (Nat → Int32)) (d : Nat) (x3 : Int32) (σ : aH) : Lq G d M_43 (68, [some (.ref 11), some (.ref 1), some (.ref 7), some (.int x3)], [.ref 7, .ref 1, .ref 11], σ) = aCV (Rn G d 51 [.ref 11, .ref 1, .ref 7] σ) fun σ1 => Lq G d M_43 (71, [some (.ref 11), some (.ref 1), some (.ref 7), some (.int x3)], [], σ1) :=
  (aUn_eq (tkd G.1 G.2) tmi (aRun (tkd G.1 G.2) tmi tmt d) M_43 [] 1 (68, [some (.ref 11), some (.ref 1), some (.ref 7), some (.int x3)], [.ref 7, .ref 1, .ref 11], σ)).trans rfl
set_option maxRecDepth 20000 in
theorem q_43_3529 (G : Nat × (Nat → Int32)) (d : Nat) (x3 : Int32) (σ : aH) : Lq G d M_43 (71, [some (.ref 11), some (.ref 1), some (.ref 7), some (.int x3)], [], σ) = Lq G d M_43 (72, [some (.ref 11), some (.ref 1), some (.ref 7), some (.int x3)], [.ref 1], σ) :=
  (aUn_eq (tkd G.1 G.2) tmi (aRun (tkd G.1 G.2) tmi tmt d) M_43 [] 1 (71, [some (.ref 11), some (.ref 1), some (.ref 7), some (.int x3)], [], σ)).trans rfl
set_option maxRecDepth 20000 in
theorem q_43_3530 (G : Nat × (Nat → Int32)) (d : Nat) (x3 : Int32) (σ : aH) : Lq G d M_43 (72, [some (.ref 11), some (.ref 1), some (.ref 7), some (.int x3)], [.ref 1], σ) = aCV (Rn G d 8 [.ref 1] σ) fun σ1 => Lq G d M_43 (75, [some (.ref 11), some (.ref 1), some (.ref 7), some (.int x3)], [], σ1) :=
  (aUn_eq (tkd G.1 G.2) tmi (aRun (tkd G.1 G.2) tmi tmt d) M_43 [] 1 (72, [some (.ref 11), some (.ref 1), some (.ref 7), some (.int x3)], [.ref 1], σ)).trans rfl
set_option maxRecDepth 20000 in
theorem q_43_3531 (G : Nat × (Nat → Int32)) (d : Nat) (x3 : Int32) (σ : aH) : Lq G d M_43 (75, [some (.ref 11), some (.ref 1), some (.ref 7), some (.int x3)], [], σ) = Lq G d M_43 (27, [some (.ref 11), some (.ref 1), some (.ref 7), some (.int (x3 + (1 : Int32)))], [], σ) :=
  (aUn_eq (tkd G.1 G.2) tmi (aRun (tkd G.1 G.2) tmi tmt d) M_43 [] 2 (75, [some (.ref 11), some (.ref 1), some (.ref 7), some (.int x3)], [], σ)).trans rfl
set_option maxRecDepth 20000 in
theorem q_43_3532 (G : Nat × (Nat → Int32)) (d : Nat) (x3 : Int32) (σ : aH) : Lq G d M_43 (56, [some (.ref 11), some (.ref 1), some (.ref 7), some (.int x3)], [], σ) = Lq G d M_43 (59, [some (.ref 11), some (.ref 1), some (.ref 7), some (.int x3)], [.ref 7, .ref 1, .ref 11], σ) :=
  (aUn_eq (tkd G.1 G.2) tmi (aRun (tkd G.1 G.2) tmi tmt d) M_43 [] 3 (56, [some (.ref 11), some (.ref 1), some (.ref 7), some (.int x3)], [], σ)).trans rfl
set_option maxRecDepth 20000 in
theorem q_43_3533 (G : Nat × (Nat → Int32)) (d : Nat) (x3 : Int32) (σ : aH) : Lq G d M_43 (59, [some (.ref 11), some (.ref 1), some (.ref 7), some (.int x3)], [.ref 7, .ref 1, .ref 11], σ) = aCV (Rn G d 46 [.ref 11, .ref 1, .ref 7] σ) fun σ1 => Lq G d M_43 (62, [some (.ref 11), some (.ref 1), some (.ref 7), some (.int x3)], [], σ1) :=
  (aUn_eq (tkd G.1 G.2) tmi (aRun (tkd G.1 G.2) tmi tmt d) M_43 [] 1 (59, [some (.ref 11), some (.ref 1), some (.ref 7), some (.int x3)], [.ref 7, .ref 1, .ref 11], σ)).trans rfl
set_option maxRecDepth 20000 in
theorem q_43_3534 (G : Nat × (Nat → Int32)) (d : Nat) (x3 : Int32) (σ : aH) : Lq G d M_43 (62, [some (.ref 11), some (.ref 1), some (.ref 7), some (.int x3)], [], σ) = Lq G d M_43 (72, [some (.ref 11), some (.ref 1), some (.ref 7), some (.int x3)], [.ref 1], σ) :=
  (aUn_eq (tkd G.1 G.2) tmi (aRun (tkd G.1 G.2) tmi tmt d) M_43 [] 2 (62, [some (.ref 11), some (.ref 1), some (.ref 7), some (.int x3)], [], σ)).trans rfl
set_option maxRecDepth 20000 in
theorem q_30_3535 (G : Nat × (Nat → Int32)) (d : Nat) (x1 : Int32) (σ : aH) : Lq G d M_30 (0, [some (.ref 1), some (.int x1)], [], σ) = Lq G d M_30 (4, [some (.ref 1), some (.int x1)], [.int (σ.1 1 2)], σ) :=
  (aUn_eq (tkd G.1 G.2) tmi (aRun (tkd G.1 G.2) tmi tmt d) M_30 [] 2 (0, [some (.ref 1), some (.int x1)], [], σ)).trans rfl
set_option maxRecDepth 20000 in
theorem q_30_3536 (G : Nat × (Nat → Int32)) (d : Nat) (x1 : Int32) (s0 : Int32) (σ : aH) : Lq G d M_30 (4, [some (.ref 1), some (.int x1)], [.int s0], σ) = if s0 = 0 then Lq G d M_30 (7, [some (.ref 1), some (.int x1)], [], σ) else Lq G d M_30 (12, [some (.ref 1), some (.int x1)], [], σ) :=
  (aUn_eq (tkd G.1 G.2) tmi (aRun (tkd G.1 G.2) tmi tmt d) M_30 [] 1 (4, [some (.ref 1), some (.int x1)], [.int s0], σ)).trans rfl
set_option maxRecDepth 20000 in
theorem q_30_3537 (G : Nat × (Nat → Int32)) (d : Nat) (x1 : Int32) (σ : aH) : Lq G d M_30 (7, [some (.ref 1), some (.int x1)], [], σ) = Lq G d M_30 (12, [some (.ref 1), some (.int x1)], [], (aSI σ 1 2 x1)) :=
  (aUn_eq (tkd G.1 G.2) tmi (aRun (tkd G.1 G.2) tmi tmt d) M_30 [] 3 (7, [some (.ref 1), some (.int x1)], [], σ)).trans rfl
set_option maxRecDepth 20000 in
theorem q_30_3538 (G : Nat × (Nat → Int32)) (d : Nat) (x1 : Int32) (σ : aH) : Lq G d M_30 (12, [some (.ref 1), some (.int x1)], [], σ) = some (.inl none, σ) :=
  (aUn_eq (tkd G.1 G.2) tmi (aRun (tkd G.1 G.2) tmi tmt d) M_30 [] 1 (12, [some (.ref 1), some (.int x1)], [], σ)).trans rfl
set_option maxRecDepth 20000 in
theorem q_64_3539 (G : Nat × (Nat → Int32)) (d : Nat) (x1 : Int32) (σ : aH) : Lq G d M_64 (0, [some (.ref 33), some (.int x1)], [], σ) = Lq G d M_64 (5, [some (.ref 33), some (.int x1)], [.int (σ.1 33 18), .int x1], σ) :=
  (aUn_eq (tkd G.1 G.2) tmi (aRun (tkd G.1 G.2) tmi tmt d) M_64 [] 3 (0, [some (.ref 33), some (.int x1)], [], σ)).trans rfl
set_option maxRecDepth 20000 in
theorem q_64_3540 (G : Nat × (Nat → Int32)) (d : Nat) (x1 : Int32) (s0 : Int32) (s1 : Int32) (σ : aH) : Lq G d M_64 (5, [some (.ref 33), some (.int x1)], [.int s0, .int s1], σ) = if s0 ≤ s1 then Lq G d M_64 (17, [some (.ref 33), some (.int x1)], [], σ) else Lq G d M_64 (8, [some (.ref 33), some (.int x1)], [], σ) :=
  (aUn_eq (tkd G.1 G.2) tmi (aRun (tkd G.1 G.2) tmi tmt d) M_64 [] 1 (5, [some (.ref 33), some (.int x1)], [.int s0, .int s1], σ)).trans rfl
set_option maxRecDepth 20000 in
theorem q_64_3541 (G : Nat × (Nat → Int32)) (d : Nat) (x1 : Int32) (σ : aH) : Lq G d M_64 (17, [some (.ref 33), some (.int x1)], [], σ) = Lq G d M_64 (18, [some (.ref 33), some (.int x1)], [.int (0 : Int32)], σ) :=
  (aUn_eq (tkd G.1 G.2) tmi (aRun (tkd G.1 G.2) tmi tmt d) M_64 [] 1 (17, [some (.ref 33), some (.int x1)], [], σ)).trans rfl
set_option maxRecDepth 20000 in
theorem q_64_3542 (G : Nat × (Nat → Int32)) (d : Nat) (x1 : Int32) (s0 : Int32) (σ : aH) : Lq G d M_64 (18, [some (.ref 33), some (.int x1)], [.int s0], σ) = some (.inl (some (.int s0)), σ) :=
  (aUn_eq (tkd G.1 G.2) tmi (aRun (tkd G.1 G.2) tmi tmt d) M_64 [] 1 (18, [some (.ref 33), some (.int x1)], [.int s0], σ)).trans rfl
set_option maxRecDepth 20000 in
theorem q_64_3543 (G : Nat × (Nat → Int32)) (d : Nat) (x1 : Int32) (σ : aH) : Lq G d M_64 (8, [some (.ref 33), some (.int x1)], [], σ) = Lq G d M_64 (13, [some (.ref 33), some (.int x1)], [.int x1, .ref 41], σ) :=
  (aUn_eq (tkd G.1 G.2) tmi (aRun (tkd G.1 G.2) tmi tmt d) M_64 [] 3 (8, [some (.ref 33), some (.int x1)], [], σ)).trans rfl
set_option maxRecDepth 20000 in
theorem q_64_3544 (G : Nat × (Nat → Int32)) (d : Nat) (x1 : Int32) (s0 : Int32) (σ : aH) : Lq G d M_64 (13, [some (.ref 33), some (.int x1)], [.int s0, .ref 41], σ) = aIx (s0) 700 fun j1 => Lq G d M_64 (14, [some (.ref 33), some (.int x1)], [.int (σ.1 41 j1)], σ) :=
  (aUn_eq (tkd G.1 G.2) tmi (aRun (tkd G.1 G.2) tmi tmt d) M_64 [] 1 (13, [some (.ref 33), some (.int x1)], [.int s0, .ref 41], σ)).trans rfl
set_option maxRecDepth 20000 in
theorem q_64_3545 (G : Nat × (Nat → Int32)) (d : Nat) (x1 : Int32) (s0 : Int32) (σ : aH) : Lq G d M_64 (14, [some (.ref 33), some (.int x1)], [.int s0], σ) = Lq G d M_64 (18, [some (.ref 33), some (.int x1)], [.int s0], σ) :=
  (aUn_eq (tkd G.1 G.2) tmi (aRun (tkd G.1 G.2) tmi tmt d) M_64 [] 1 (14, [some (.ref 33), some (.int x1)], [.int s0], σ)).trans rfl
set_option maxRecDepth 20000 in
theorem q_65_3546 (G : Nat × (Nat → Int32)) (d : Nat) (x0 : Int32) (σ : aH) : Lq G d M_65 (0, [some (.int x0)], [], σ) = Lq G d M_65 (3, [some (.int x0)], [.int (97 : Int32), .int x0], σ) :=
  (aUn_eq (tkd G.1 G.2) tmi (aRun (tkd G.1 G.2) tmi tmt d) M_65 [] 2 (0, [some (.int x0)], [], σ)).trans rfl
set_option maxRecDepth 20000 in
theorem q_65_3547 (G : Nat × (Nat → Int32)) (d : Nat) (x0 : Int32) (s0 : Int32) (s1 : Int32) (σ : aH) : Lq G d M_65 (3, [some (.int x0)], [.int s0, .int s1], σ) = if s1 < s0 then Lq G d M_65 (16, [some (.int x0)], [], σ) else Lq G d M_65 (6, [some (.int x0)], [], σ) :=
  (aUn_eq (tkd G.1 G.2) tmi (aRun (tkd G.1 G.2) tmi tmt d) M_65 [] 1 (3, [some (.int x0)], [.int s0, .int s1], σ)).trans rfl
set_option maxRecDepth 20000 in
theorem q_65_3548 (G : Nat × (Nat → Int32)) (d : Nat) (x0 : Int32) (σ : aH) : Lq G d M_65 (16, [some (.int x0)], [], σ) = Lq G d M_65 (17, [some (.int x0)], [.int (0 : Int32)], σ) :=
  (aUn_eq (tkd G.1 G.2) tmi (aRun (tkd G.1 G.2) tmi tmt d) M_65 [] 1 (16, [some (.int x0)], [], σ)).trans rfl
set_option maxRecDepth 20000 in
theorem q_65_3549 (G : Nat × (Nat → Int32)) (d : Nat) (x0 : Int32) (s0 : Int32) (σ : aH) : Lq G d M_65 (17, [some (.int x0)], [.int s0], σ) = aNar .boolean (s0) (some (.inl (some (.int s0)), σ)) :=
  (aUn_eq (tkd G.1 G.2) tmi (aRun (tkd G.1 G.2) tmi tmt d) M_65 [] 1 (17, [some (.int x0)], [.int s0], σ)).trans rfl
set_option maxRecDepth 20000 in
theorem q_65_3550 (G : Nat × (Nat → Int32)) (d : Nat) (x0 : Int32) (σ : aH) : Lq G d M_65 (6, [some (.int x0)], [], σ) = Lq G d M_65 (9, [some (.int x0)], [.int (122 : Int32), .int x0], σ) :=
  (aUn_eq (tkd G.1 G.2) tmi (aRun (tkd G.1 G.2) tmi tmt d) M_65 [] 2 (6, [some (.int x0)], [], σ)).trans rfl
set_option maxRecDepth 20000 in
theorem q_65_3551 (G : Nat × (Nat → Int32)) (d : Nat) (x0 : Int32) (s0 : Int32) (s1 : Int32) (σ : aH) : Lq G d M_65 (9, [some (.int x0)], [.int s0, .int s1], σ) = if s0 < s1 then Lq G d M_65 (16, [some (.int x0)], [], σ) else Lq G d M_65 (12, [some (.int x0)], [], σ) :=
  (aUn_eq (tkd G.1 G.2) tmi (aRun (tkd G.1 G.2) tmi tmt d) M_65 [] 1 (9, [some (.int x0)], [.int s0, .int s1], σ)).trans rfl
set_option maxRecDepth 20000 in
theorem q_65_3552 (G : Nat × (Nat → Int32)) (d : Nat) (x0 : Int32) (σ : aH) : Lq G d M_65 (12, [some (.int x0)], [], σ) = Lq G d M_65 (17, [some (.int x0)], [.int (1 : Int32)], σ) :=
  (aUn_eq (tkd G.1 G.2) tmi (aRun (tkd G.1 G.2) tmi tmt d) M_65 [] 2 (12, [some (.int x0)], [], σ)).trans rfl
set_option maxRecDepth 20000 in
theorem q_66_3553 (G : Nat × (Nat → Int32)) (d : Nat) (x0 : Int32) (σ : aH) : Lq G d M_66 (0, [some (.int x0)], [], σ) = Lq G d M_66 (3, [some (.int x0)], [.int (48 : Int32), .int x0], σ) :=
  (aUn_eq (tkd G.1 G.2) tmi (aRun (tkd G.1 G.2) tmi tmt d) M_66 [] 2 (0, [some (.int x0)], [], σ)).trans rfl
set_option maxRecDepth 20000 in
theorem q_66_3554 (G : Nat × (Nat → Int32)) (d : Nat) (x0 : Int32) (s0 : Int32) (s1 : Int32) (σ : aH) : Lq G d M_66 (3, [some (.int x0)], [.int s0, .int s1], σ) = if s1 < s0 then Lq G d M_66 (16, [some (.int x0)], [], σ) else Lq G d M_66 (6, [some (.int x0)], [], σ) :=
  (aUn_eq (tkd G.1 G.2) tmi (aRun (tkd G.1 G.2) tmi tmt d) M_66 [] 1 (3, [some (.int x0)], [.int s0, .int s1], σ)).trans rfl
set_option maxRecDepth 20000 in
theorem q_66_3555 (G : Nat × (Nat → Int32)) (d : Nat) (x0 : Int32) (σ : aH) : Lq G d M_66 (16, [some (.int x0)], [], σ) = Lq G d M_66 (17, [some (.int x0)], [.int (0 : Int32)], σ) :=
  (aUn_eq (tkd G.1 G.2) tmi (aRun (tkd G.1 G.2) tmi tmt d) M_66 [] 1 (16, [some (.int x0)], [], σ)).trans rfl
set_option maxRecDepth 20000 in
theorem q_66_3556 (G : Nat × (Nat → Int32)) (d : Nat) (x0 : Int32) (s0 : Int32) (σ : aH) : Lq G d M_66 (17, [some (.int x0)], [.int s0], σ) = aNar .boolean (s0) (some (.inl (some (.int s0)), σ)) :=
  (aUn_eq (tkd G.1 G.2) tmi (aRun (tkd G.1 G.2) tmi tmt d) M_66 [] 1 (17, [some (.int x0)], [.int s0], σ)).trans rfl
set_option maxRecDepth 20000 in
theorem q_66_3557 (G : Nat × (Nat → Int32)) (d : Nat) (x0 : Int32) (σ : aH) : Lq G d M_66 (6, [some (.int x0)], [], σ) = Lq G d M_66 (9, [some (.int x0)], [.int (57 : Int32), .int x0], σ) :=
  (aUn_eq (tkd G.1 G.2) tmi (aRun (tkd G.1 G.2) tmi tmt d) M_66 [] 2 (6, [some (.int x0)], [], σ)).trans rfl
set_option maxRecDepth 20000 in
theorem q_66_3558 (G : Nat × (Nat → Int32)) (d : Nat) (x0 : Int32) (s0 : Int32) (s1 : Int32) (σ : aH) : Lq G d M_66 (9, [some (.int x0)], [.int s0, .int s1], σ) = if s0 < s1 then Lq G d M_66 (16, [some (.int x0)], [], σ) else Lq G d M_66 (12, [some (.int x0)], [], σ) :=
  (aUn_eq (tkd G.1 G.2) tmi (aRun (tkd G.1 G.2) tmi tmt d) M_66 [] 1 (9, [some (.int x0)], [.int s0, .int s1], σ)).trans rfl
set_option maxRecDepth 20000 in
theorem q_66_3559 (G : Nat × (Nat → Int32)) (d : Nat) (x0 : Int32) (σ : aH) : Lq G d M_66 (12, [some (.int x0)], [], σ) = Lq G d M_66 (17, [some (.int x0)], [.int (1 : Int32)], σ) :=
  (aUn_eq (tkd G.1 G.2) tmi (aRun (tkd G.1 G.2) tmi tmt d) M_66 [] 2 (12, [some (.int x0)], [], σ)).trans rfl
set_option maxRecDepth 20000 in
theorem q_69_3560 (G : Nat × (Nat → Int32)) (d : Nat)  (σ : aH) : Lq G d M_69 (0, [some (.ref 33), none], [], σ) = Lq G d M_69 (5, [some (.ref 33), none], [.int (1 : Int32), .int (σ.1 33 20)], σ) :=
  (aUn_eq (tkd G.1 G.2) tmi (aRun (tkd G.1 G.2) tmi tmt d) M_69 [] 3 (0, [some (.ref 33), none], [], σ)).trans rfl
set_option maxRecDepth 20000 in
theorem q_69_3561 (G : Nat × (Nat → Int32)) (d : Nat) (s0 : Int32) (s1 : Int32) (σ : aH) : Lq G d M_69 (5, [some (.ref 33), none], [.int s0, .int s1], σ) = if s1 = s0 then Lq G d M_69 (8, [some (.ref 33), none], [], σ) else Lq G d M_69 (17, [some (.ref 33), none], [], σ) :=
  (aUn_eq (tkd G.1 G.2) tmi (aRun (tkd G.1 G.2) tmi tmt d) M_69 [] 1 (5, [some (.ref 33), none], [.int s0, .int s1], σ)).trans rfl
set_option maxRecDepth 20000 in
theorem q_69_3562 (G : Nat × (Nat → Int32)) (d : Nat)  (σ : aH) : Lq G d M_69 (8, [some (.ref 33), none], [], σ) = Lq G d M_69 (14, [some (.ref 33), none], [.int (7 : Int32), .int (σ.1 33 22)], σ) :=
  (aUn_eq (tkd G.1 G.2) tmi (aRun (tkd G.1 G.2) tmi tmt d) M_69 [] 3 (8, [some (.ref 33), none], [], σ)).trans rfl
set_option maxRecDepth 20000 in
theorem q_69_3563 (G : Nat × (Nat → Int32)) (d : Nat) (s0 : Int32) (s1 : Int32) (σ : aH) : Lq G d M_69 (14, [some (.ref 33), none], [.int s0, .int s1], σ) = if s1 ≤ s0 then Lq G d M_69 (19, [some (.ref 33), none], [], σ) else Lq G d M_69 (17, [some (.ref 33), none], [], σ) :=
  (aUn_eq (tkd G.1 G.2) tmi (aRun (tkd G.1 G.2) tmi tmt d) M_69 [] 1 (14, [some (.ref 33), none], [.int s0, .int s1], σ)).trans rfl
set_option maxRecDepth 20000 in
theorem q_69_3564 (G : Nat × (Nat → Int32)) (d : Nat)  (σ : aH) : Lq G d M_69 (19, [some (.ref 33), none], [], σ) = Lq G d M_69 (21, [some (.ref 33), some (.int (0 : Int32))], [], σ) :=
  (aUn_eq (tkd G.1 G.2) tmi (aRun (tkd G.1 G.2) tmi tmt d) M_69 [] 2 (19, [some (.ref 33), none], [], σ)).trans rfl
set_option maxRecDepth 20000 in
theorem q_69_3565 (G : Nat × (Nat → Int32)) (d : Nat)  (σ : aH) : Lq G d M_69 (17, [some (.ref 33), none], [], σ) = Lq G d M_69 (18, [some (.ref 33), none], [.int (-1 : Int32)], σ) :=
  (aUn_eq (tkd G.1 G.2) tmi (aRun (tkd G.1 G.2) tmi tmt d) M_69 [] 1 (17, [some (.ref 33), none], [], σ)).trans rfl
set_option maxRecDepth 20000 in
theorem q_69_3566 (G : Nat × (Nat → Int32)) (d : Nat) (s0 : Int32) (σ : aH) : Lq G d M_69 (18, [some (.ref 33), none], [.int s0], σ) = some (.inl (some (.int s0)), σ) :=
  (aUn_eq (tkd G.1 G.2) tmi (aRun (tkd G.1 G.2) tmi tmt d) M_69 [] 1 (18, [some (.ref 33), none], [.int s0], σ)).trans rfl
set_option maxRecDepth 20000 in
theorem q_69_3567 (G : Nat × (Nat → Int32)) (d : Nat) (x1 : Int32) (σ : aH) : Lq G d M_69 (21, [some (.ref 33), some (.int x1)], [], σ) = Lq G d M_69 (24, [some (.ref 33), some (.int x1)], [.int (39 : Int32), .int x1], σ) :=
  (aUn_eq (tkd G.1 G.2) tmi (aRun (tkd G.1 G.2) tmi tmt d) M_69 [] 2 (21, [some (.ref 33), some (.int x1)], [], σ)).trans rfl
set_option maxRecDepth 20000 in
theorem q_69_3568 (G : Nat × (Nat → Int32)) (d : Nat) (x1 : Int32) (s0 : Int32) (s1 : Int32) (σ : aH) : Lq G d M_69 (24, [some (.ref 33), some (.int x1)], [.int s0, .int s1], σ) = if s0 ≤ s1 then Lq G d M_69 (47, [some (.ref 33), some (.int x1)], [], σ) else Lq G d M_69 (27, [some (.ref 33), some (.int x1)], [], σ) :=
  (aUn_eq (tkd G.1 G.2) tmi (aRun (tkd G.1 G.2) tmi tmt d) M_69 [] 1 (24, [some (.ref 33), some (.int x1)], [.int s0, .int s1], σ)).trans rfl
set_option maxRecDepth 20000 in
theorem q_69_3569 (G : Nat × (Nat → Int32)) (d : Nat) (x1 : Int32) (σ : aH) : Lq G d M_69 (47, [some (.ref 33), some (.int x1)], [], σ) = Lq G d M_69 (48, [some (.ref 33), some (.int x1)], [.int (-1 : Int32)], σ) :=
  (aUn_eq (tkd G.1 G.2) tmi (aRun (tkd G.1 G.2) tmi tmt d) M_69 [] 1 (47, [some (.ref 33), some (.int x1)], [], σ)).trans rfl
set_option maxRecDepth 20000 in
theorem q_69_3570 (G : Nat × (Nat → Int32)) (d : Nat) (x1 : Int32) (s0 : Int32) (σ : aH) : Lq G d M_69 (48, [some (.ref 33), some (.int x1)], [.int s0], σ) = some (.inl (some (.int s0)), σ) :=
  (aUn_eq (tkd G.1 G.2) tmi (aRun (tkd G.1 G.2) tmi tmt d) M_69 [] 1 (48, [some (.ref 33), some (.int x1)], [.int s0], σ)).trans rfl
set_option maxRecDepth 20000 in
theorem q_69_3571 (G : Nat × (Nat → Int32)) (d : Nat) (x1 : Int32) (σ : aH) : Lq G d M_69 (27, [some (.ref 33), some (.int x1)], [], σ) = Lq G d M_69 (28, [some (.ref 33), some (.int x1)], [.int x1], σ) :=
  (aUn_eq (tkd G.1 G.2) tmi (aRun (tkd G.1 G.2) tmi tmt d) M_69 [] 1 (27, [some (.ref 33), some (.int x1)], [], σ)).trans rfl
set_option maxRecDepth 20000 in
theorem q_69_3572 (G : Nat × (Nat → Int32)) (d : Nat) (x1 : Int32) (s0 : Int32) (σ : aH) : Lq G d M_69 (28, [some (.ref 33), some (.int x1)], [.int s0], σ) = aCL (Rn G d 70 [.int s0] σ) fun v2 σ1 => Lq G d M_69 (31, [some (.ref 33), some (.int x1)], [.long v2], σ1) :=
  (aUn_eq (tkd G.1 G.2) tmi (aRun (tkd G.1 G.2) tmi tmt d) M_69 [] 1 (28, [some (.ref 33), some (.int x1)], [.int s0], σ)).trans rfl
set_option maxRecDepth 20000 in
theorem q_69_3573 (G : Nat × (Nat → Int32)) (d : Nat) (x1 : Int32) (s0 : Int64) (σ : aH) : Lq G d M_69 (31, [some (.ref 33), some (.int x1)], [.long s0], σ) = Lq G d M_69 (36, [some (.ref 33), some (.int x1)], [.int (lg_cmp s0 (σ.2 33 25))], σ) :=
  (aUn_eq (tkd G.1 G.2) tmi (aRun (tkd G.1 G.2) tmi tmt d) M_69 [] 3 (31, [some (.ref 33), some (.int x1)], [.long s0], σ)).trans rfl
set_option maxRecDepth 20000 in
theorem q_69_3574 (G : Nat × (Nat → Int32)) (d : Nat) (x1 : Int32) (s0 : Int32) (σ : aH) : Lq G d M_69 (36, [some (.ref 33), some (.int x1)], [.int s0], σ) = if s0 = 0 then Lq G d M_69 (39, [some (.ref 33), some (.int x1)], [], σ) else Lq G d M_69 (41, [some (.ref 33), some (.int x1)], [], σ) :=
  (aUn_eq (tkd G.1 G.2) tmi (aRun (tkd G.1 G.2) tmi tmt d) M_69 [] 1 (36, [some (.ref 33), some (.int x1)], [.int s0], σ)).trans rfl
set_option maxRecDepth 20000 in
theorem q_69_3575 (G : Nat × (Nat → Int32)) (d : Nat) (x1 : Int32) (σ : aH) : Lq G d M_69 (39, [some (.ref 33), some (.int x1)], [], σ) = Lq G d M_69 (40, [some (.ref 33), some (.int x1)], [.int x1], σ) :=
  (aUn_eq (tkd G.1 G.2) tmi (aRun (tkd G.1 G.2) tmi tmt d) M_69 [] 1 (39, [some (.ref 33), some (.int x1)], [], σ)).trans rfl
set_option maxRecDepth 20000 in
theorem q_69_3576 (G : Nat × (Nat → Int32)) (d : Nat) (x1 : Int32) (s0 : Int32) (σ : aH) : Lq G d M_69 (40, [some (.ref 33), some (.int x1)], [.int s0], σ) = some (.inl (some (.int s0)), σ) :=
  (aUn_eq (tkd G.1 G.2) tmi (aRun (tkd G.1 G.2) tmi tmt d) M_69 [] 1 (40, [some (.ref 33), some (.int x1)], [.int s0], σ)).trans rfl
set_option maxRecDepth 20000 in
theorem q_69_3577 (G : Nat × (Nat → Int32)) (d : Nat) (x1 : Int32) (σ : aH) : Lq G d M_69 (41, [some (.ref 33), some (.int x1)], [], σ) = Lq G d M_69 (21, [some (.ref 33), some (.int (x1 + (1 : Int32)))], [], σ) :=
  (aUn_eq (tkd G.1 G.2) tmi (aRun (tkd G.1 G.2) tmi tmt d) M_69 [] 2 (41, [some (.ref 33), some (.int x1)], [], σ)).trans rfl
set_option maxRecDepth 20000 in
theorem q_72_3578 (G : Nat × (Nat → Int32)) (d : Nat)  (σ : aH) : Lq G d M_72 (0, [some (.ref 33), none], [], σ) = Lq G d M_72 (6, [some (.ref 33), none], [.int (20 : Int32), .int (σ.1 33 26)], σ) :=
  (aUn_eq (tkd G.1 G.2) tmi (aRun (tkd G.1 G.2) tmi tmt d) M_72 [] 3 (0, [some (.ref 33), none], [], σ)).trans rfl
set_option maxRecDepth 20000 in
theorem q_72_3579 (G : Nat × (Nat → Int32)) (d : Nat) (s0 : Int32) (s1 : Int32) (σ : aH) : Lq G d M_72 (6, [some (.ref 33), none], [.int s0, .int s1], σ) = if s1 = s0 then Lq G d M_72 (9, [some (.ref 33), none], [], σ) else Lq G d M_72 (14, [some (.ref 33), none], [], σ) :=
  (aUn_eq (tkd G.1 G.2) tmi (aRun (tkd G.1 G.2) tmi tmt d) M_72 [] 1 (6, [some (.ref 33), none], [.int s0, .int s1], σ)).trans rfl
set_option maxRecDepth 20000 in
theorem q_72_3580 (G : Nat × (Nat → Int32)) (d : Nat)  (σ : aH) : Lq G d M_72 (9, [some (.ref 33), none], [], σ) = Lq G d M_72 (11, [some (.ref 33), none], [.int (2 : Int32), .ref 33], σ) :=
  (aUn_eq (tkd G.1 G.2) tmi (aRun (tkd G.1 G.2) tmi tmt d) M_72 [] 2 (9, [some (.ref 33), none], [], σ)).trans rfl
set_option maxRecDepth 20000 in
theorem q_72_3581 (G : Nat × (Nat → Int32)) (d : Nat) (s0 : Int32) (σ : aH) : Lq G d M_72 (11, [some (.ref 33), none], [.int s0, .ref 33], σ) = aCV (Rn G d 73 [.ref 33, .int s0] σ) fun σ1 => Lq G d M_72 (14, [some (.ref 33), none], [], σ1) :=
  (aUn_eq (tkd G.1 G.2) tmi (aRun (tkd G.1 G.2) tmi tmt d) M_72 [] 1 (11, [some (.ref 33), none], [.int s0, .ref 33], σ)).trans rfl
set_option maxRecDepth 20000 in
theorem q_72_3582 (G : Nat × (Nat → Int32)) (d : Nat)  (σ : aH) : Lq G d M_72 (14, [some (.ref 33), none], [], σ) = Lq G d M_72 (15, [some (.ref 33), none], [.ref 33], σ) :=
  (aUn_eq (tkd G.1 G.2) tmi (aRun (tkd G.1 G.2) tmi tmt d) M_72 [] 1 (14, [some (.ref 33), none], [], σ)).trans rfl
set_option maxRecDepth 20000 in
theorem q_72_3583 (G : Nat × (Nat → Int32)) (d : Nat)  (σ : aH) : Lq G d M_72 (15, [some (.ref 33), none], [.ref 33], σ) = aCI (Rn G d 67 [.ref 33] σ) fun v2 σ1 => Lq G d M_72 (18, [some (.ref 33), none], [.int v2], σ1) :=
  (aUn_eq (tkd G.1 G.2) tmi (aRun (tkd G.1 G.2) tmi tmt d) M_72 [] 1 (15, [some (.ref 33), none], [.ref 33], σ)).trans rfl
set_option maxRecDepth 20000 in
theorem q_72_3584 (G : Nat × (Nat → Int32)) (d : Nat) (s0 : Int32) (σ : aH) : Lq G d M_72 (18, [some (.ref 33), none], [.int s0], σ) = if s0 = 0 then Lq G d M_72 (21, [some (.ref 33), none], [], σ) else Lq G d M_72 (22, [some (.ref 33), none], [], σ) :=
  (aUn_eq (tkd G.1 G.2) tmi (aRun (tkd G.1 G.2) tmi tmt d) M_72 [] 1 (18, [some (.ref 33), none], [.int s0], σ)).trans rfl
set_option maxRecDepth 20000 in
theorem q_72_3585 (G : Nat × (Nat → Int32)) (d : Nat)  (σ : aH) : Lq G d M_72 (21, [some (.ref 33), none], [], σ) = some (.inl none, σ) :=
  (aUn_eq (tkd G.1 G.2) tmi (aRun (tkd G.1 G.2) tmi tmt d) M_72 [] 1 (21, [some (.ref 33), none], [], σ)).trans rfl
set_option maxRecDepth 20000 in
theorem q_72_3586 (G : Nat × (Nat → Int32)) (d : Nat)  (σ : aH) : Lq G d M_72 (22, [some (.ref 33), none], [], σ) = Lq G d M_72 (23, [some (.ref 33), none], [.ref 33], σ) :=
  (aUn_eq (tkd G.1 G.2) tmi (aRun (tkd G.1 G.2) tmi tmt d) M_72 [] 1 (22, [some (.ref 33), none], [], σ)).trans rfl
set_option maxRecDepth 20000 in
theorem q_72_3587 (G : Nat × (Nat → Int32)) (d : Nat)  (σ : aH) : Lq G d M_72 (23, [some (.ref 33), none], [.ref 33], σ) = aCV (Rn G d 63 [.ref 33] σ) fun σ1 => Lq G d M_72 (26, [some (.ref 33), none], [], σ1) :=
  (aUn_eq (tkd G.1 G.2) tmi (aRun (tkd G.1 G.2) tmi tmt d) M_72 [] 1 (23, [some (.ref 33), none], [.ref 33], σ)).trans rfl
set_option maxRecDepth 20000 in
theorem q_72_3588 (G : Nat × (Nat → Int32)) (d : Nat)  (σ : aH) : Lq G d M_72 (26, [some (.ref 33), none], [], σ) = Lq G d M_72 (45, [some (.ref 33), some (.int ((6 : Int32) * (σ.1 33 26)))], [.int (99 : Int32), .int (1 : Int32), .int (13 : Int32), .ref 33, .int ((6 : Int32) * (σ.1 33 26)), .ref 42], σ) :=
  (aUn_eq (tkd G.1 G.2) tmi (aRun (tkd G.1 G.2) tmi tmt d) M_72 [] 12 (26, [some (.ref 33), none], [], σ)).trans rfl
set_option maxRecDepth 20000 in
theorem q_72_3589 (G : Nat × (Nat → Int32)) (d : Nat) (x1 : Int32) (s0 : Int32) (s1 : Int32) (s2 : Int32) (s4 : Int32) (σ : aH) : Lq G d M_72 (45, [some (.ref 33), some (.int x1)], [.int s0, .int s1, .int s2, .ref 33, .int s4, .ref 42], σ) = aCI (Rn G d 74 [.ref 33, .int s2, .int s1, .int s0] σ) fun v2 σ1 => Lq G d M_72 (48, [some (.ref 33), some (.int x1)], [.int v2, .int s4, .ref 42], σ1) :=
  (aUn_eq (tkd G.1 G.2) tmi (aRun (tkd G.1 G.2) tmi tmt d) M_72 [] 1 (45, [some (.ref 33), some (.int x1)], [.int s0, .int s1, .int s2, .ref 33, .int s4, .ref 42], σ)).trans rfl
set_option maxRecDepth 20000 in
theorem q_72_3590 (G : Nat × (Nat → Int32)) (d : Nat) (x1 : Int32) (s0 : Int32) (s1 : Int32) (σ : aH) : Lq G d M_72 (48, [some (.ref 33), some (.int x1)], [.int s0, .int s1, .ref 42], σ) = aIx (s1) 120 fun j1 => Lq G d M_72 (49, [some (.ref 33), some (.int x1)], [], (aSI σ 42 j1 s0)) :=
  (aUn_eq (tkd G.1 G.2) tmi (aRun (tkd G.1 G.2) tmi tmt d) M_72 [] 1 (48, [some (.ref 33), some (.int x1)], [.int s0, .int s1, .ref 42], σ)).trans rfl
set_option maxRecDepth 20000 in
theorem q_72_3591 (G : Nat × (Nat → Int32)) (d : Nat) (x1 : Int32) (σ : aH) : Lq G d M_72 (49, [some (.ref 33), some (.int x1)], [], σ) = Lq G d M_72 (62, [some (.ref 33), some (.int x1)], [.int (99 : Int32), .int (1 : Int32), .int (14 : Int32), .ref 33, .int (x1 + (1 : Int32)), .ref 42], σ) :=
  (aUn_eq (tkd G.1 G.2) tmi (aRun (tkd G.1 G.2) tmi tmt d) M_72 [] 9 (49, [some (.ref 33), some (.int x1)], [], σ)).trans rfl
set_option maxRecDepth 20000 in
theorem q_72_3592 (G : Nat × (Nat → Int32)) (d : Nat) (x1 : Int32) (s0 : Int32) (s1 : Int32) (s2 : Int32) (s4 : Int32) (σ : aH) : Lq G d M_72 (62, [some (.ref 33), some (.int x1)], [.int s0, .int s1, .int s2, .ref 33, .int s4, .ref 42], σ) = aCI (Rn G d 74 [.ref 33, .int s2, .int s1, .int s0] σ) fun v2 σ1 => Lq G d M_72 (65, [some (.ref 33), some (.int x1)], [.int v2, .int s4, .ref 42], σ1) :=
  (aUn_eq (tkd G.1 G.2) tmi (aRun (tkd G.1 G.2) tmi tmt d) M_72 [] 1 (62, [some (.ref 33), some (.int x1)], [.int s0, .int s1, .int s2, .ref 33, .int s4, .ref 42], σ)).trans rfl
set_option maxRecDepth 20000 in
theorem q_72_3593 (G : Nat × (Nat → Int32)) (d : Nat) (x1 : Int32) (s0 : Int32) (s1 : Int32) (σ : aH) : Lq G d M_72 (65, [some (.ref 33), some (.int x1)], [.int s0, .int s1, .ref 42], σ) = aIx (s1) 120 fun j1 => Lq G d M_72 (66, [some (.ref 33), some (.int x1)], [], (aSI σ 42 j1 s0)) :=
  (aUn_eq (tkd G.1 G.2) tmi (aRun (tkd G.1 G.2) tmi tmt d) M_72 [] 1 (65, [some (.ref 33), some (.int x1)], [.int s0, .int s1, .ref 42], σ)).trans rfl
set_option maxRecDepth 20000 in
theorem q_72_3594 (G : Nat × (Nat → Int32)) (d : Nat) (x1 : Int32) (σ : aH) : Lq G d M_72 (66, [some (.ref 33), some (.int x1)], [], σ) = Lq G d M_72 (80, [some (.ref 33), some (.int x1)], [.int (999 : Int32), .int (1 : Int32), .int (15 : Int32), .ref 33, .int (x1 + (2 : Int32)), .ref 42], σ) :=
  (aUn_eq (tkd G.1 G.2) tmi (aRun (tkd G.1 G.2) tmi tmt d) M_72 [] 9 (66, [some (.ref 33), some (.int x1)], [], σ)).trans rfl
set_option maxRecDepth 20000 in
theorem q_72_3595 (G : Nat × (Nat → Int32)) (d : Nat) (x1 : Int32) (s0 : Int32) (s1 : Int32) (s2 : Int32) (s4 : Int32) (σ : aH) : Lq G d M_72 (80, [some (.ref 33), some (.int x1)], [.int s0, .int s1, .int s2, .ref 33, .int s4, .ref 42], σ) = aCI (Rn G d 74 [.ref 33, .int s2, .int s1, .int s0] σ) fun v2 σ1 => Lq G d M_72 (83, [some (.ref 33), some (.int x1)], [.int v2, .int s4, .ref 42], σ1) :=
  (aUn_eq (tkd G.1 G.2) tmi (aRun (tkd G.1 G.2) tmi tmt d) M_72 [] 1 (80, [some (.ref 33), some (.int x1)], [.int s0, .int s1, .int s2, .ref 33, .int s4, .ref 42], σ)).trans rfl
set_option maxRecDepth 20000 in
theorem q_72_3596 (G : Nat × (Nat → Int32)) (d : Nat) (x1 : Int32) (s0 : Int32) (s1 : Int32) (σ : aH) : Lq G d M_72 (83, [some (.ref 33), some (.int x1)], [.int s0, .int s1, .ref 42], σ) = aIx (s1) 120 fun j1 => Lq G d M_72 (84, [some (.ref 33), some (.int x1)], [], (aSI σ 42 j1 s0)) :=
  (aUn_eq (tkd G.1 G.2) tmi (aRun (tkd G.1 G.2) tmi tmt d) M_72 [] 1 (83, [some (.ref 33), some (.int x1)], [.int s0, .int s1, .ref 42], σ)).trans rfl
set_option maxRecDepth 20000 in
theorem q_72_3597 (G : Nat × (Nat → Int32)) (d : Nat) (x1 : Int32) (σ : aH) : Lq G d M_72 (84, [some (.ref 33), some (.int x1)], [], σ) = Lq G d M_72 (98, [some (.ref 33), some (.int x1)], [.int (1000 : Int32), .int (0 : Int32), .int (16 : Int32), .ref 33, .int (x1 + (3 : Int32)), .ref 42], σ) :=
  (aUn_eq (tkd G.1 G.2) tmi (aRun (tkd G.1 G.2) tmi tmt d) M_72 [] 9 (84, [some (.ref 33), some (.int x1)], [], σ)).trans rfl
set_option maxRecDepth 20000 in
theorem q_72_3598 (G : Nat × (Nat → Int32)) (d : Nat) (x1 : Int32) (s0 : Int32) (s1 : Int32) (s2 : Int32) (s4 : Int32) (σ : aH) : Lq G d M_72 (98, [some (.ref 33), some (.int x1)], [.int s0, .int s1, .int s2, .ref 33, .int s4, .ref 42], σ) = aCI (Rn G d 74 [.ref 33, .int s2, .int s1, .int s0] σ) fun v2 σ1 => Lq G d M_72 (101, [some (.ref 33), some (.int x1)], [.int v2, .int s4, .ref 42], σ1) :=
  (aUn_eq (tkd G.1 G.2) tmi (aRun (tkd G.1 G.2) tmi tmt d) M_72 [] 1 (98, [some (.ref 33), some (.int x1)], [.int s0, .int s1, .int s2, .ref 33, .int s4, .ref 42], σ)).trans rfl
set_option maxRecDepth 20000 in
theorem q_72_3599 (G : Nat × (Nat → Int32)) (d : Nat) (x1 : Int32) (s0 : Int32) (s1 : Int32) (σ : aH) : Lq G d M_72 (101, [some (.ref 33), some (.int x1)], [.int s0, .int s1, .ref 42], σ) = aIx (s1) 120 fun j1 => Lq G d M_72 (102, [some (.ref 33), some (.int x1)], [], (aSI σ 42 j1 s0)) :=
  (aUn_eq (tkd G.1 G.2) tmi (aRun (tkd G.1 G.2) tmi tmt d) M_72 [] 1 (101, [some (.ref 33), some (.int x1)], [.int s0, .int s1, .ref 42], σ)).trans rfl
set_option maxRecDepth 20000 in
theorem q_72_3600 (G : Nat × (Nat → Int32)) (d : Nat) (x1 : Int32) (σ : aH) : Lq G d M_72 (102, [some (.ref 33), some (.int x1)], [], σ) = Lq G d M_72 (116, [some (.ref 33), some (.int x1)], [.int (0 : Int32), .int (100 : Int32), .int (0 : Int32), .int (17 : Int32), .ref 33, .int (x1 + (4 : Int32)), .ref 42], σ) :=
  (aUn_eq (tkd G.1 G.2) tmi (aRun (tkd G.1 G.2) tmi tmt d) M_72 [] 10 (102, [some (.ref 33), some (.int x1)], [], σ)).trans rfl
set_option maxRecDepth 20000 in
theorem q_72_3601 (G : Nat × (Nat → Int32)) (d : Nat) (x1 : Int32) (s0 : Int32) (s1 : Int32) (s2 : Int32) (s3 : Int32) (s5 : Int32) (σ : aH) : Lq G d M_72 (116, [some (.ref 33), some (.int x1)], [.int s0, .int s1, .int s2, .int s3, .ref 33, .int s5, .ref 42], σ) = aCI (Rn G d 77 [.ref 33, .int s3, .int s2, .int s1, .int s0] σ) fun v2 σ1 => Lq G d M_72 (119, [some (.ref 33), some (.int x1)], [.int v2, .int s5, .ref 42], σ1) :=
  (aUn_eq (tkd G.1 G.2) tmi (aRun (tkd G.1 G.2) tmi tmt d) M_72 [] 1 (116, [some (.ref 33), some (.int x1)], [.int s0, .int s1, .int s2, .int s3, .ref 33, .int s5, .ref 42], σ)).trans rfl
set_option maxRecDepth 20000 in
theorem q_72_3602 (G : Nat × (Nat → Int32)) (d : Nat) (x1 : Int32) (s0 : Int32) (s1 : Int32) (σ : aH) : Lq G d M_72 (119, [some (.ref 33), some (.int x1)], [.int s0, .int s1, .ref 42], σ) = aIx (s1) 120 fun j1 => Lq G d M_72 (120, [some (.ref 33), some (.int x1)], [], (aSI σ 42 j1 s0)) :=
  (aUn_eq (tkd G.1 G.2) tmi (aRun (tkd G.1 G.2) tmi tmt d) M_72 [] 1 (119, [some (.ref 33), some (.int x1)], [.int s0, .int s1, .ref 42], σ)).trans rfl
set_option maxRecDepth 20000 in
theorem q_72_3603 (G : Nat × (Nat → Int32)) (d : Nat) (x1 : Int32) (σ : aH) : Lq G d M_72 (120, [some (.ref 33), some (.int x1)], [], σ) = Lq G d M_72 (134, [some (.ref 33), some (.int x1)], [.int (0 : Int32), .int (100 : Int32), .int (0 : Int32), .int (18 : Int32), .ref 33, .int (x1 + (5 : Int32)), .ref 42], σ) :=
  (aUn_eq (tkd G.1 G.2) tmi (aRun (tkd G.1 G.2) tmi tmt d) M_72 [] 10 (120, [some (.ref 33), some (.int x1)], [], σ)).trans rfl
set_option maxRecDepth 20000 in
theorem q_72_3604 (G : Nat × (Nat → Int32)) (d : Nat) (x1 : Int32) (s0 : Int32) (s1 : Int32) (s2 : Int32) (s3 : Int32) (s5 : Int32) (σ : aH) : Lq G d M_72 (134, [some (.ref 33), some (.int x1)], [.int s0, .int s1, .int s2, .int s3, .ref 33, .int s5, .ref 42], σ) = aCI (Rn G d 77 [.ref 33, .int s3, .int s2, .int s1, .int s0] σ) fun v2 σ1 => Lq G d M_72 (137, [some (.ref 33), some (.int x1)], [.int v2, .int s5, .ref 42], σ1) :=
  (aUn_eq (tkd G.1 G.2) tmi (aRun (tkd G.1 G.2) tmi tmt d) M_72 [] 1 (134, [some (.ref 33), some (.int x1)], [.int s0, .int s1, .int s2, .int s3, .ref 33, .int s5, .ref 42], σ)).trans rfl
set_option maxRecDepth 20000 in
theorem q_72_3605 (G : Nat × (Nat → Int32)) (d : Nat) (x1 : Int32) (s0 : Int32) (s1 : Int32) (σ : aH) : Lq G d M_72 (137, [some (.ref 33), some (.int x1)], [.int s0, .int s1, .ref 42], σ) = aIx (s1) 120 fun j1 => Lq G d M_72 (138, [some (.ref 33), some (.int x1)], [], (aSI σ 42 j1 s0)) :=
  (aUn_eq (tkd G.1 G.2) tmi (aRun (tkd G.1 G.2) tmi tmt d) M_72 [] 1 (137, [some (.ref 33), some (.int x1)], [.int s0, .int s1, .ref 42], σ)).trans rfl
set_option maxRecDepth 20000 in
theorem q_72_3606 (G : Nat × (Nat → Int32)) (d : Nat) (x1 : Int32) (σ : aH) : Lq G d M_72 (138, [some (.ref 33), some (.int x1)], [], σ) = Lq G d M_72 (139, [some (.ref 33), some (.int x1)], [.ref 33], σ) :=
  (aUn_eq (tkd G.1 G.2) tmi (aRun (tkd G.1 G.2) tmi tmt d) M_72 [] 1 (138, [some (.ref 33), some (.int x1)], [], σ)).trans rfl
set_option maxRecDepth 20000 in
theorem q_72_3607 (G : Nat × (Nat → Int32)) (d : Nat) (x1 : Int32) (σ : aH) : Lq G d M_72 (139, [some (.ref 33), some (.int x1)], [.ref 33], σ) = aCI (Rn G d 67 [.ref 33] σ) fun v2 σ1 => Lq G d M_72 (142, [some (.ref 33), some (.int x1)], [.int v2], σ1) :=
  (aUn_eq (tkd G.1 G.2) tmi (aRun (tkd G.1 G.2) tmi tmt d) M_72 [] 1 (139, [some (.ref 33), some (.int x1)], [.ref 33], σ)).trans rfl
set_option maxRecDepth 20000 in
theorem q_72_3608 (G : Nat × (Nat → Int32)) (d : Nat) (x1 : Int32) (s0 : Int32) (σ : aH) : Lq G d M_72 (142, [some (.ref 33), some (.int x1)], [.int s0], σ) = if s0 = 0 then Lq G d M_72 (155, [some (.ref 33), some (.int x1)], [], σ) else Lq G d M_72 (145, [some (.ref 33), some (.int x1)], [], σ) :=
  (aUn_eq (tkd G.1 G.2) tmi (aRun (tkd G.1 G.2) tmi tmt d) M_72 [] 1 (142, [some (.ref 33), some (.int x1)], [.int s0], σ)).trans rfl
set_option maxRecDepth 20000 in
theorem q_72_3609 (G : Nat × (Nat → Int32)) (d : Nat) (x1 : Int32) (σ : aH) : Lq G d M_72 (155, [some (.ref 33), some (.int x1)], [], σ) = some (.inl none, σ) :=
  (aUn_eq (tkd G.1 G.2) tmi (aRun (tkd G.1 G.2) tmi tmt d) M_72 [] 1 (155, [some (.ref 33), some (.int x1)], [], σ)).trans rfl
set_option maxRecDepth 20000 in
theorem q_72_3610 (G : Nat × (Nat → Int32)) (d : Nat) (x1 : Int32) (σ : aH) : Lq G d M_72 (145, [some (.ref 33), some (.int x1)], [], σ) = Lq G d M_72 (155, [some (.ref 33), some (.int x1)], [], (aSI σ 33 26 ((σ.1 33 26) + (1 : Int32)))) :=
  (aUn_eq (tkd G.1 G.2) tmi (aRun (tkd G.1 G.2) tmi tmt d) M_72 [] 6 (145, [some (.ref 33), some (.int x1)], [], σ)).trans rfl
set_option maxRecDepth 20000 in
theorem q_85_3611 (G : Nat × (Nat → Int32)) (d : Nat) (x1 : Int32) (σ : aH) : Lq G d M_85 (0, [some (.ref 33), some (.int x1)], [], σ) = Lq G d M_85 (5, [some (.ref 33), some (.int x1)], [.int (3 : Int32), .int (σ.1 33 20)], σ) :=
  (aUn_eq (tkd G.1 G.2) tmi (aRun (tkd G.1 G.2) tmi tmt d) M_85 [] 3 (0, [some (.ref 33), some (.int x1)], [], σ)).trans rfl
set_option maxRecDepth 20000 in
theorem q_85_3612 (G : Nat × (Nat → Int32)) (d : Nat) (x1 : Int32) (s0 : Int32) (s1 : Int32) (σ : aH) : Lq G d M_85 (5, [some (.ref 33), some (.int x1)], [.int s0, .int s1], σ) = if s1 = s0 then Lq G d M_85 (8, [some (.ref 33), some (.int x1)], [], σ) else Lq G d M_85 (20, [some (.ref 33), some (.int x1)], [], σ) :=
  (aUn_eq (tkd G.1 G.2) tmi (aRun (tkd G.1 G.2) tmi tmt d) M_85 [] 1 (5, [some (.ref 33), some (.int x1)], [.int s0, .int s1], σ)).trans rfl
set_option maxRecDepth 20000 in
theorem q_85_3613 (G : Nat × (Nat → Int32)) (d : Nat) (x1 : Int32) (σ : aH) : Lq G d M_85 (8, [some (.ref 33), some (.int x1)], [], σ) = Lq G d M_85 (13, [some (.ref 33), some (.int x1)], [.int x1, .int (σ.1 33 24)], σ) :=
  (aUn_eq (tkd G.1 G.2) tmi (aRun (tkd G.1 G.2) tmi tmt d) M_85 [] 3 (8, [some (.ref 33), some (.int x1)], [], σ)).trans rfl
set_option maxRecDepth 20000 in
theorem q_85_3614 (G : Nat × (Nat → Int32)) (d : Nat) (x1 : Int32) (s0 : Int32) (s1 : Int32) (σ : aH) : Lq G d M_85 (13, [some (.ref 33), some (.int x1)], [.int s0, .int s1], σ) = if s1 = s0 then Lq G d M_85 (16, [some (.ref 33), some (.int x1)], [], σ) else Lq G d M_85 (20, [some (.ref 33), some (.int x1)], [], σ) :=
  (aUn_eq (tkd G.1 G.2) tmi (aRun (tkd G.1 G.2) tmi tmt d) M_85 [] 1 (13, [some (.ref 33), some (.int x1)], [.int s0, .int s1], σ)).trans rfl
set_option maxRecDepth 20000 in
theorem q_85_3615 (G : Nat × (Nat → Int32)) (d : Nat) (x1 : Int32) (σ : aH) : Lq G d M_85 (16, [some (.ref 33), some (.int x1)], [], σ) = Lq G d M_85 (21, [some (.ref 33), some (.int x1)], [.int (1 : Int32)], σ) :=
  (aUn_eq (tkd G.1 G.2) tmi (aRun (tkd G.1 G.2) tmi tmt d) M_85 [] 2 (16, [some (.ref 33), some (.int x1)], [], σ)).trans rfl
set_option maxRecDepth 20000 in
theorem q_85_3616 (G : Nat × (Nat → Int32)) (d : Nat) (x1 : Int32) (s0 : Int32) (σ : aH) : Lq G d M_85 (21, [some (.ref 33), some (.int x1)], [.int s0], σ) = aNar .boolean (s0) (some (.inl (some (.int s0)), σ)) :=
  (aUn_eq (tkd G.1 G.2) tmi (aRun (tkd G.1 G.2) tmi tmt d) M_85 [] 1 (21, [some (.ref 33), some (.int x1)], [.int s0], σ)).trans rfl
set_option maxRecDepth 20000 in
theorem q_85_3617 (G : Nat × (Nat → Int32)) (d : Nat) (x1 : Int32) (σ : aH) : Lq G d M_85 (20, [some (.ref 33), some (.int x1)], [], σ) = Lq G d M_85 (21, [some (.ref 33), some (.int x1)], [.int (0 : Int32)], σ) :=
  (aUn_eq (tkd G.1 G.2) tmi (aRun (tkd G.1 G.2) tmi tmt d) M_85 [] 1 (20, [some (.ref 33), some (.int x1)], [], σ)).trans rfl
set_option maxRecDepth 20000 in
theorem q_75_3618 (G : Nat × (Nat → Int32)) (d : Nat) (x1 : Int32) (σ : aH) : Lq G d M_75 (0, [some (.ref 33), some (.int x1)], [], σ) = Lq G d M_75 (1, [some (.ref 33), some (.int x1)], [.ref 33], σ) :=
  (aUn_eq (tkd G.1 G.2) tmi (aRun (tkd G.1 G.2) tmi tmt d) M_75 [] 1 (0, [some (.ref 33), some (.int x1)], [], σ)).trans rfl
set_option maxRecDepth 20000 in
theorem q_75_3619 (G : Nat × (Nat → Int32)) (d : Nat) (x1 : Int32) (σ : aH) : Lq G d M_75 (1, [some (.ref 33), some (.int x1)], [.ref 33], σ) = aCI (Rn G d 67 [.ref 33] σ) fun v2 σ1 => Lq G d M_75 (4, [some (.ref 33), some (.int x1)], [.int v2], σ1) :=
  (aUn_eq (tkd G.1 G.2) tmi (aRun (tkd G.1 G.2) tmi tmt d) M_75 [] 1 (1, [some (.ref 33), some (.int x1)], [.ref 33], σ)).trans rfl
set_option maxRecDepth 20000 in
theorem q_75_3620 (G : Nat × (Nat → Int32)) (d : Nat) (x1 : Int32) (s0 : Int32) (σ : aH) : Lq G d M_75 (4, [some (.ref 33), some (.int x1)], [.int s0], σ) = if s0 = 0 then Lq G d M_75 (7, [some (.ref 33), some (.int x1)], [], σ) else Lq G d M_75 (8, [some (.ref 33), some (.int x1)], [], σ) :=
  (aUn_eq (tkd G.1 G.2) tmi (aRun (tkd G.1 G.2) tmi tmt d) M_75 [] 1 (4, [some (.ref 33), some (.int x1)], [.int s0], σ)).trans rfl
set_option maxRecDepth 20000 in
theorem q_75_3621 (G : Nat × (Nat → Int32)) (d : Nat) (x1 : Int32) (σ : aH) : Lq G d M_75 (7, [some (.ref 33), some (.int x1)], [], σ) = some (.inl none, σ) :=
  (aUn_eq (tkd G.1 G.2) tmi (aRun (tkd G.1 G.2) tmi tmt d) M_75 [] 1 (7, [some (.ref 33), some (.int x1)], [], σ)).trans rfl
set_option maxRecDepth 20000 in
theorem q_75_3622 (G : Nat × (Nat → Int32)) (d : Nat) (x1 : Int32) (σ : aH) : Lq G d M_75 (8, [some (.ref 33), some (.int x1)], [], σ) = Lq G d M_75 (9, [some (.ref 33), some (.int x1)], [.int x1], σ) :=
  (aUn_eq (tkd G.1 G.2) tmi (aRun (tkd G.1 G.2) tmi tmt d) M_75 [] 1 (8, [some (.ref 33), some (.int x1)], [], σ)).trans rfl
set_option maxRecDepth 20000 in
theorem q_75_3623 (G : Nat × (Nat → Int32)) (d : Nat) (x1 : Int32) (s0 : Int32) (σ : aH) : Lq G d M_75 (9, [some (.ref 33), some (.int x1)], [.int s0], σ) = if s0 = 0 then Lq G d M_75 (19, [some (.ref 33), some (.int x1)], [], σ) else Lq G d M_75 (12, [some (.ref 33), some (.int x1)], [], σ) :=
  (aUn_eq (tkd G.1 G.2) tmi (aRun (tkd G.1 G.2) tmi tmt d) M_75 [] 1 (9, [some (.ref 33), some (.int x1)], [.int s0], σ)).trans rfl
set_option maxRecDepth 20000 in
theorem q_75_3624 (G : Nat × (Nat → Int32)) (d : Nat) (x1 : Int32) (σ : aH) : Lq G d M_75 (19, [some (.ref 33), some (.int x1)], [], σ) = Lq G d M_75 (21, [some (.ref 33), some (.int x1)], [.int (1 : Int32), .ref 33], σ) :=
  (aUn_eq (tkd G.1 G.2) tmi (aRun (tkd G.1 G.2) tmi tmt d) M_75 [] 2 (19, [some (.ref 33), some (.int x1)], [], σ)).trans rfl
set_option maxRecDepth 20000 in
theorem q_75_3625 (G : Nat × (Nat → Int32)) (d : Nat) (x1 : Int32) (s0 : Int32) (σ : aH) : Lq G d M_75 (21, [some (.ref 33), some (.int x1)], [.int s0, .ref 33], σ) = aCV (Rn G d 73 [.ref 33, .int s0] σ) fun σ1 => Lq G d M_75 (24, [some (.ref 33), some (.int x1)], [], σ1) :=
  (aUn_eq (tkd G.1 G.2) tmi (aRun (tkd G.1 G.2) tmi tmt d) M_75 [] 1 (21, [some (.ref 33), some (.int x1)], [.int s0, .ref 33], σ)).trans rfl
set_option maxRecDepth 20000 in
theorem q_75_3626 (G : Nat × (Nat → Int32)) (d : Nat) (x1 : Int32) (σ : aH) : Lq G d M_75 (24, [some (.ref 33), some (.int x1)], [], σ) = some (.inl none, σ) :=
  (aUn_eq (tkd G.1 G.2) tmi (aRun (tkd G.1 G.2) tmi tmt d) M_75 [] 1 (24, [some (.ref 33), some (.int x1)], [], σ)).trans rfl
set_option maxRecDepth 20000 in
theorem q_75_3627 (G : Nat × (Nat → Int32)) (d : Nat) (x1 : Int32) (σ : aH) : Lq G d M_75 (12, [some (.ref 33), some (.int x1)], [], σ) = Lq G d M_75 (13, [some (.ref 33), some (.int x1)], [.ref 33], σ) :=
  (aUn_eq (tkd G.1 G.2) tmi (aRun (tkd G.1 G.2) tmi tmt d) M_75 [] 1 (12, [some (.ref 33), some (.int x1)], [], σ)).trans rfl
set_option maxRecDepth 20000 in
theorem q_75_3628 (G : Nat × (Nat → Int32)) (d : Nat) (x1 : Int32) (σ : aH) : Lq G d M_75 (13, [some (.ref 33), some (.int x1)], [.ref 33], σ) = aCV (Rn G d 63 [.ref 33] σ) fun σ1 => Lq G d M_75 (16, [some (.ref 33), some (.int x1)], [], σ1) :=
  (aUn_eq (tkd G.1 G.2) tmi (aRun (tkd G.1 G.2) tmi tmt d) M_75 [] 1 (13, [some (.ref 33), some (.int x1)], [.ref 33], σ)).trans rfl
set_option maxRecDepth 20000 in
theorem q_75_3629 (G : Nat × (Nat → Int32)) (d : Nat) (x1 : Int32) (σ : aH) : Lq G d M_75 (16, [some (.ref 33), some (.int x1)], [], σ) = Lq G d M_75 (24, [some (.ref 33), some (.int x1)], [], σ) :=
  (aUn_eq (tkd G.1 G.2) tmi (aRun (tkd G.1 G.2) tmi tmt d) M_75 [] 1 (16, [some (.ref 33), some (.int x1)], [], σ)).trans rfl
set_option maxRecDepth 20000 in
theorem q_78_3630 (G : Nat × (Nat → Int32)) (d : Nat)  (σ : aH) : Lq G d M_78 (0, [some (.ref 33), none], [], σ) = Lq G d M_78 (6, [some (.ref 33), none], [.int (20 : Int32), .int (σ.1 33 27)], σ) :=
  (aUn_eq (tkd G.1 G.2) tmi (aRun (tkd G.1 G.2) tmi tmt d) M_78 [] 3 (0, [some (.ref 33), none], [], σ)).trans rfl
set_option maxRecDepth 20000 in
theorem q_78_3631 (G : Nat × (Nat → Int32)) (d : Nat) (s0 : Int32) (s1 : Int32) (σ : aH) : Lq G d M_78 (6, [some (.ref 33), none], [.int s0, .int s1], σ) = if s1 = s0 then Lq G d M_78 (9, [some (.ref 33), none], [], σ) else Lq G d M_78 (14, [some (.ref 33), none], [], σ) :=
  (aUn_eq (tkd G.1 G.2) tmi (aRun (tkd G.1 G.2) tmi tmt d) M_78 [] 1 (6, [some (.ref 33), none], [.int s0, .int s1], σ)).trans rfl
set_option maxRecDepth 20000 in
theorem q_78_3632 (G : Nat × (Nat → Int32)) (d : Nat)  (σ : aH) : Lq G d M_78 (9, [some (.ref 33), none], [], σ) = Lq G d M_78 (11, [some (.ref 33), none], [.int (2 : Int32), .ref 33], σ) :=
  (aUn_eq (tkd G.1 G.2) tmi (aRun (tkd G.1 G.2) tmi tmt d) M_78 [] 2 (9, [some (.ref 33), none], [], σ)).trans rfl
set_option maxRecDepth 20000 in
theorem q_78_3633 (G : Nat × (Nat → Int32)) (d : Nat) (s0 : Int32) (σ : aH) : Lq G d M_78 (11, [some (.ref 33), none], [.int s0, .ref 33], σ) = aCV (Rn G d 73 [.ref 33, .int s0] σ) fun σ1 => Lq G d M_78 (14, [some (.ref 33), none], [], σ1) :=
  (aUn_eq (tkd G.1 G.2) tmi (aRun (tkd G.1 G.2) tmi tmt d) M_78 [] 1 (11, [some (.ref 33), none], [.int s0, .ref 33], σ)).trans rfl
set_option maxRecDepth 20000 in
theorem q_78_3634 (G : Nat × (Nat → Int32)) (d : Nat)  (σ : aH) : Lq G d M_78 (14, [some (.ref 33), none], [], σ) = Lq G d M_78 (15, [some (.ref 33), none], [.ref 33], σ) :=
  (aUn_eq (tkd G.1 G.2) tmi (aRun (tkd G.1 G.2) tmi tmt d) M_78 [] 1 (14, [some (.ref 33), none], [], σ)).trans rfl
set_option maxRecDepth 20000 in
theorem q_78_3635 (G : Nat × (Nat → Int32)) (d : Nat)  (σ : aH) : Lq G d M_78 (15, [some (.ref 33), none], [.ref 33], σ) = aCI (Rn G d 67 [.ref 33] σ) fun v2 σ1 => Lq G d M_78 (18, [some (.ref 33), none], [.int v2], σ1) :=
  (aUn_eq (tkd G.1 G.2) tmi (aRun (tkd G.1 G.2) tmi tmt d) M_78 [] 1 (15, [some (.ref 33), none], [.ref 33], σ)).trans rfl
set_option maxRecDepth 20000 in
theorem q_78_3636 (G : Nat × (Nat → Int32)) (d : Nat) (s0 : Int32) (σ : aH) : Lq G d M_78 (18, [some (.ref 33), none], [.int s0], σ) = if s0 = 0 then Lq G d M_78 (21, [some (.ref 33), none], [], σ) else Lq G d M_78 (22, [some (.ref 33), none], [], σ) :=
  (aUn_eq (tkd G.1 G.2) tmi (aRun (tkd G.1 G.2) tmi tmt d) M_78 [] 1 (18, [some (.ref 33), none], [.int s0], σ)).trans rfl
set_option maxRecDepth 20000 in
theorem q_78_3637 (G : Nat × (Nat → Int32)) (d : Nat)  (σ : aH) : Lq G d M_78 (21, [some (.ref 33), none], [], σ) = some (.inl none, σ) :=
  (aUn_eq (tkd G.1 G.2) tmi (aRun (tkd G.1 G.2) tmi tmt d) M_78 [] 1 (21, [some (.ref 33), none], [], σ)).trans rfl
set_option maxRecDepth 20000 in
theorem q_78_3638 (G : Nat × (Nat → Int32)) (d : Nat)  (σ : aH) : Lq G d M_78 (22, [some (.ref 33), none], [], σ) = Lq G d M_78 (23, [some (.ref 33), none], [.ref 33], σ) :=
  (aUn_eq (tkd G.1 G.2) tmi (aRun (tkd G.1 G.2) tmi tmt d) M_78 [] 1 (22, [some (.ref 33), none], [], σ)).trans rfl
set_option maxRecDepth 20000 in
theorem q_78_3639 (G : Nat × (Nat → Int32)) (d : Nat)  (σ : aH) : Lq G d M_78 (23, [some (.ref 33), none], [.ref 33], σ) = aCV (Rn G d 63 [.ref 33] σ) fun σ1 => Lq G d M_78 (26, [some (.ref 33), none], [], σ1) :=
  (aUn_eq (tkd G.1 G.2) tmi (aRun (tkd G.1 G.2) tmi tmt d) M_78 [] 1 (23, [some (.ref 33), none], [.ref 33], σ)).trans rfl
set_option maxRecDepth 20000 in
theorem q_78_3640 (G : Nat × (Nat → Int32)) (d : Nat)  (σ : aH) : Lq G d M_78 (26, [some (.ref 33), none], [], σ) = Lq G d M_78 (45, [some (.ref 33), some (.int ((6 : Int32) * (σ.1 33 27)))], [.int (999 : Int32), .int (0 : Int32), .int (5 : Int32), .ref 33, .int ((6 : Int32) * (σ.1 33 27)), .ref 43], σ) :=
  (aUn_eq (tkd G.1 G.2) tmi (aRun (tkd G.1 G.2) tmi tmt d) M_78 [] 12 (26, [some (.ref 33), none], [], σ)).trans rfl
set_option maxRecDepth 20000 in
theorem q_78_3641 (G : Nat × (Nat → Int32)) (d : Nat) (x1 : Int32) (s0 : Int32) (s1 : Int32) (s2 : Int32) (s4 : Int32) (σ : aH) : Lq G d M_78 (45, [some (.ref 33), some (.int x1)], [.int s0, .int s1, .int s2, .ref 33, .int s4, .ref 43], σ) = aCI (Rn G d 74 [.ref 33, .int s2, .int s1, .int s0] σ) fun v2 σ1 => Lq G d M_78 (48, [some (.ref 33), some (.int x1)], [.int v2, .int s4, .ref 43], σ1) :=
  (aUn_eq (tkd G.1 G.2) tmi (aRun (tkd G.1 G.2) tmi tmt d) M_78 [] 1 (45, [some (.ref 33), some (.int x1)], [.int s0, .int s1, .int s2, .ref 33, .int s4, .ref 43], σ)).trans rfl
set_option maxRecDepth 20000 in
theorem q_78_3642 (G : Nat × (Nat → Int32)) (d : Nat) (x1 : Int32) (s0 : Int32) (s1 : Int32) (σ : aH) : Lq G d M_78 (48, [some (.ref 33), some (.int x1)], [.int s0, .int s1, .ref 43], σ) = aIx (s1) 120 fun j1 => Lq G d M_78 (49, [some (.ref 33), some (.int x1)], [], (aSI σ 43 j1 s0)) :=
  (aUn_eq (tkd G.1 G.2) tmi (aRun (tkd G.1 G.2) tmi tmt d) M_78 [] 1 (48, [some (.ref 33), some (.int x1)], [.int s0, .int s1, .ref 43], σ)).trans rfl
set_option maxRecDepth 20000 in
theorem q_78_3643 (G : Nat × (Nat → Int32)) (d : Nat) (x1 : Int32) (σ : aH) : Lq G d M_78 (49, [some (.ref 33), some (.int x1)], [], σ) = Lq G d M_78 (64, [some (.ref 33), some (.int x1)], [.int (0 : Int32), .int (2000 : Int32), .int (0 : Int32), .int (6 : Int32), .ref 33, .int (x1 + (1 : Int32)), .ref 43], σ) :=
  (aUn_eq (tkd G.1 G.2) tmi (aRun (tkd G.1 G.2) tmi tmt d) M_78 [] 10 (49, [some (.ref 33), some (.int x1)], [], σ)).trans rfl
set_option maxRecDepth 20000 in
theorem q_78_3644 (G : Nat × (Nat → Int32)) (d : Nat) (x1 : Int32) (s0 : Int32) (s1 : Int32) (s2 : Int32) (s3 : Int32) (s5 : Int32) (σ : aH) : Lq G d M_78 (64, [some (.ref 33), some (.int x1)], [.int s0, .int s1, .int s2, .int s3, .ref 33, .int s5, .ref 43], σ) = aCI (Rn G d 77 [.ref 33, .int s3, .int s2, .int s1, .int s0] σ) fun v2 σ1 => Lq G d M_78 (67, [some (.ref 33), some (.int x1)], [.int v2, .int s5, .ref 43], σ1) :=
  (aUn_eq (tkd G.1 G.2) tmi (aRun (tkd G.1 G.2) tmi tmt d) M_78 [] 1 (64, [some (.ref 33), some (.int x1)], [.int s0, .int s1, .int s2, .int s3, .ref 33, .int s5, .ref 43], σ)).trans rfl
set_option maxRecDepth 20000 in
theorem q_78_3645 (G : Nat × (Nat → Int32)) (d : Nat) (x1 : Int32) (s0 : Int32) (s1 : Int32) (σ : aH) : Lq G d M_78 (67, [some (.ref 33), some (.int x1)], [.int s0, .int s1, .ref 43], σ) = aIx (s1) 120 fun j1 => Lq G d M_78 (68, [some (.ref 33), some (.int x1)], [], (aSI σ 43 j1 s0)) :=
  (aUn_eq (tkd G.1 G.2) tmi (aRun (tkd G.1 G.2) tmi tmt d) M_78 [] 1 (67, [some (.ref 33), some (.int x1)], [.int s0, .int s1, .ref 43], σ)).trans rfl
set_option maxRecDepth 20000 in
theorem q_78_3646 (G : Nat × (Nat → Int32)) (d : Nat) (x1 : Int32) (σ : aH) : Lq G d M_78 (68, [some (.ref 33), some (.int x1)], [], σ) = Lq G d M_78 (78, [some (.ref 33), some (.int x1)], [.int (20 : Int32), .ref 33, .int (x1 + (2 : Int32)), .ref 43], σ) :=
  (aUn_eq (tkd G.1 G.2) tmi (aRun (tkd G.1 G.2) tmi tmt d) M_78 [] 7 (68, [some (.ref 33), some (.int x1)], [], σ)).trans rfl
set_option maxRecDepth 20000 in
theorem q_78_3647 (G : Nat × (Nat → Int32)) (d : Nat) (x1 : Int32) (s0 : Int32) (s2 : Int32) (σ : aH) : Lq G d M_78 (78, [some (.ref 33), some (.int x1)], [.int s0, .ref 33, .int s2, .ref 43], σ) = aCI (Rn G d 79 [.ref 33, .int s0] σ) fun v2 σ1 => Lq G d M_78 (81, [some (.ref 33), some (.int x1)], [.int v2, .int s2, .ref 43], σ1) :=
  (aUn_eq (tkd G.1 G.2) tmi (aRun (tkd G.1 G.2) tmi tmt d) M_78 [] 1 (78, [some (.ref 33), some (.int x1)], [.int s0, .ref 33, .int s2, .ref 43], σ)).trans rfl
set_option maxRecDepth 20000 in
theorem q_78_3648 (G : Nat × (Nat → Int32)) (d : Nat) (x1 : Int32) (s0 : Int32) (s1 : Int32) (σ : aH) : Lq G d M_78 (81, [some (.ref 33), some (.int x1)], [.int s0, .int s1, .ref 43], σ) = if s0 = 0 then Lq G d M_78 (88, [some (.ref 33), some (.int x1)], [.int s1, .ref 43], σ) else Lq G d M_78 (84, [some (.ref 33), some (.int x1)], [.int s1, .ref 43], σ) :=
  (aUn_eq (tkd G.1 G.2) tmi (aRun (tkd G.1 G.2) tmi tmt d) M_78 [] 1 (81, [some (.ref 33), some (.int x1)], [.int s0, .int s1, .ref 43], σ)).trans rfl
set_option maxRecDepth 20000 in
theorem q_78_3649 (G : Nat × (Nat → Int32)) (d : Nat) (x1 : Int32) (s0 : Int32) (σ : aH) : Lq G d M_78 (88, [some (.ref 33), some (.int x1)], [.int s0, .ref 43], σ) = Lq G d M_78 (91, [some (.ref 33), some (.int x1)], [.int (21 : Int32), .ref 33, .int s0, .ref 43], σ) :=
  (aUn_eq (tkd G.1 G.2) tmi (aRun (tkd G.1 G.2) tmi tmt d) M_78 [] 2 (88, [some (.ref 33), some (.int x1)], [.int s0, .ref 43], σ)).trans rfl
set_option maxRecDepth 20000 in
theorem q_78_3650 (G : Nat × (Nat → Int32)) (d : Nat) (x1 : Int32) (s0 : Int32) (s2 : Int32) (σ : aH) : Lq G d M_78 (91, [some (.ref 33), some (.int x1)], [.int s0, .ref 33, .int s2, .ref 43], σ) = aCI (Rn G d 79 [.ref 33, .int s0] σ) fun v2 σ1 => Lq G d M_78 (94, [some (.ref 33), some (.int x1)], [.int v2, .int s2, .ref 43], σ1) :=
  (aUn_eq (tkd G.1 G.2) tmi (aRun (tkd G.1 G.2) tmi tmt d) M_78 [] 1 (91, [some (.ref 33), some (.int x1)], [.int s0, .ref 33, .int s2, .ref 43], σ)).trans rfl
set_option maxRecDepth 20000 in
theorem q_78_3651 (G : Nat × (Nat → Int32)) (d : Nat) (x1 : Int32) (s0 : Int32) (s1 : Int32) (σ : aH) : Lq G d M_78 (94, [some (.ref 33), some (.int x1)], [.int s0, .int s1, .ref 43], σ) = if s0 = 0 then Lq G d M_78 (101, [some (.ref 33), some (.int x1)], [.int s1, .ref 43], σ) else Lq G d M_78 (97, [some (.ref 33), some (.int x1)], [.int s1, .ref 43], σ) :=
  (aUn_eq (tkd G.1 G.2) tmi (aRun (tkd G.1 G.2) tmi tmt d) M_78 [] 1 (94, [some (.ref 33), some (.int x1)], [.int s0, .int s1, .ref 43], σ)).trans rfl
set_option maxRecDepth 20000 in
theorem q_78_3652 (G : Nat × (Nat → Int32)) (d : Nat) (x1 : Int32) (s0 : Int32) (σ : aH) : Lq G d M_78 (101, [some (.ref 33), some (.int x1)], [.int s0, .ref 43], σ) = Lq G d M_78 (102, [some (.ref 33), some (.int x1)], [.int (0 : Int32), .int s0, .ref 43], σ) :=
  (aUn_eq (tkd G.1 G.2) tmi (aRun (tkd G.1 G.2) tmi tmt d) M_78 [] 1 (101, [some (.ref 33), some (.int x1)], [.int s0, .ref 43], σ)).trans rfl
set_option maxRecDepth 20000 in
theorem q_78_3653 (G : Nat × (Nat → Int32)) (d : Nat) (x1 : Int32) (s0 : Int32) (s1 : Int32) (σ : aH) : Lq G d M_78 (102, [some (.ref 33), some (.int x1)], [.int s0, .int s1, .ref 43], σ) = aIx (s1) 120 fun j1 => Lq G d M_78 (103, [some (.ref 33), some (.int x1)], [], (aSI σ 43 j1 s0)) :=
  (aUn_eq (tkd G.1 G.2) tmi (aRun (tkd G.1 G.2) tmi tmt d) M_78 [] 1 (102, [some (.ref 33), some (.int x1)], [.int s0, .int s1, .ref 43], σ)).trans rfl
set_option maxRecDepth 20000 in
theorem q_78_3654 (G : Nat × (Nat → Int32)) (d : Nat) (x1 : Int32) (σ : aH) : Lq G d M_78 (103, [some (.ref 33), some (.int x1)], [], σ) = Lq G d M_78 (113, [some (.ref 33), some (.int x1)], [.int (22 : Int32), .ref 33, .int (x1 + (3 : Int32)), .ref 43], σ) :=
  (aUn_eq (tkd G.1 G.2) tmi (aRun (tkd G.1 G.2) tmi tmt d) M_78 [] 7 (103, [some (.ref 33), some (.int x1)], [], σ)).trans rfl
set_option maxRecDepth 20000 in
theorem q_78_3655 (G : Nat × (Nat → Int32)) (d : Nat) (x1 : Int32) (s0 : Int32) (s2 : Int32) (σ : aH) : Lq G d M_78 (113, [some (.ref 33), some (.int x1)], [.int s0, .ref 33, .int s2, .ref 43], σ) = aCI (Rn G d 79 [.ref 33, .int s0] σ) fun v2 σ1 => Lq G d M_78 (116, [some (.ref 33), some (.int x1)], [.int v2, .int s2, .ref 43], σ1) :=
  (aUn_eq (tkd G.1 G.2) tmi (aRun (tkd G.1 G.2) tmi tmt d) M_78 [] 1 (113, [some (.ref 33), some (.int x1)], [.int s0, .ref 33, .int s2, .ref 43], σ)).trans rfl
set_option maxRecDepth 20000 in
theorem q_78_3656 (G : Nat × (Nat → Int32)) (d : Nat) (x1 : Int32) (s0 : Int32) (s1 : Int32) (σ : aH) : Lq G d M_78 (116, [some (.ref 33), some (.int x1)], [.int s0, .int s1, .ref 43], σ) = if s0 = 0 then Lq G d M_78 (123, [some (.ref 33), some (.int x1)], [.int s1, .ref 43], σ) else Lq G d M_78 (119, [some (.ref 33), some (.int x1)], [.int s1, .ref 43], σ) :=
  (aUn_eq (tkd G.1 G.2) tmi (aRun (tkd G.1 G.2) tmi tmt d) M_78 [] 1 (116, [some (.ref 33), some (.int x1)], [.int s0, .int s1, .ref 43], σ)).trans rfl
set_option maxRecDepth 20000 in
theorem q_78_3657 (G : Nat × (Nat → Int32)) (d : Nat) (x1 : Int32) (s0 : Int32) (σ : aH) : Lq G d M_78 (123, [some (.ref 33), some (.int x1)], [.int s0, .ref 43], σ) = Lq G d M_78 (126, [some (.ref 33), some (.int x1)], [.int (23 : Int32), .ref 33, .int s0, .ref 43], σ) :=
  (aUn_eq (tkd G.1 G.2) tmi (aRun (tkd G.1 G.2) tmi tmt d) M_78 [] 2 (123, [some (.ref 33), some (.int x1)], [.int s0, .ref 43], σ)).trans rfl
set_option maxRecDepth 20000 in
theorem q_78_3658 (G : Nat × (Nat → Int32)) (d : Nat) (x1 : Int32) (s0 : Int32) (s2 : Int32) (σ : aH) : Lq G d M_78 (126, [some (.ref 33), some (.int x1)], [.int s0, .ref 33, .int s2, .ref 43], σ) = aCI (Rn G d 79 [.ref 33, .int s0] σ) fun v2 σ1 => Lq G d M_78 (129, [some (.ref 33), some (.int x1)], [.int v2, .int s2, .ref 43], σ1) :=
  (aUn_eq (tkd G.1 G.2) tmi (aRun (tkd G.1 G.2) tmi tmt d) M_78 [] 1 (126, [some (.ref 33), some (.int x1)], [.int s0, .ref 33, .int s2, .ref 43], σ)).trans rfl
set_option maxRecDepth 20000 in
theorem q_78_3659 (G : Nat × (Nat → Int32)) (d : Nat) (x1 : Int32) (s0 : Int32) (s1 : Int32) (σ : aH) : Lq G d M_78 (129, [some (.ref 33), some (.int x1)], [.int s0, .int s1, .ref 43], σ) = if s0 = 0 then Lq G d M_78 (136, [some (.ref 33), some (.int x1)], [.int s1, .ref 43], σ) else Lq G d M_78 (132, [some (.ref 33), some (.int x1)], [.int s1, .ref 43], σ) :=
  (aUn_eq (tkd G.1 G.2) tmi (aRun (tkd G.1 G.2) tmi tmt d) M_78 [] 1 (129, [some (.ref 33), some (.int x1)], [.int s0, .int s1, .ref 43], σ)).trans rfl
set_option maxRecDepth 20000 in
theorem q_78_3660 (G : Nat × (Nat → Int32)) (d : Nat) (x1 : Int32) (s0 : Int32) (σ : aH) : Lq G d M_78 (136, [some (.ref 33), some (.int x1)], [.int s0, .ref 43], σ) = Lq G d M_78 (137, [some (.ref 33), some (.int x1)], [.int (0 : Int32), .int s0, .ref 43], σ) :=
  (aUn_eq (tkd G.1 G.2) tmi (aRun (tkd G.1 G.2) tmi tmt d) M_78 [] 1 (136, [some (.ref 33), some (.int x1)], [.int s0, .ref 43], σ)).trans rfl
set_option maxRecDepth 20000 in
theorem q_78_3661 (G : Nat × (Nat → Int32)) (d : Nat) (x1 : Int32) (s0 : Int32) (s1 : Int32) (σ : aH) : Lq G d M_78 (137, [some (.ref 33), some (.int x1)], [.int s0, .int s1, .ref 43], σ) = aIx (s1) 120 fun j1 => Lq G d M_78 (138, [some (.ref 33), some (.int x1)], [], (aSI σ 43 j1 s0)) :=
  (aUn_eq (tkd G.1 G.2) tmi (aRun (tkd G.1 G.2) tmi tmt d) M_78 [] 1 (137, [some (.ref 33), some (.int x1)], [.int s0, .int s1, .ref 43], σ)).trans rfl
set_option maxRecDepth 20000 in
theorem q_78_3662 (G : Nat × (Nat → Int32)) (d : Nat) (x1 : Int32) (σ : aH) : Lq G d M_78 (138, [some (.ref 33), some (.int x1)], [], σ) = Lq G d M_78 (148, [some (.ref 33), some (.int x1)], [.int (9 : Int32), .ref 33, .int (x1 + (4 : Int32)), .ref 43], σ) :=
  (aUn_eq (tkd G.1 G.2) tmi (aRun (tkd G.1 G.2) tmi tmt d) M_78 [] 7 (138, [some (.ref 33), some (.int x1)], [], σ)).trans rfl
set_option maxRecDepth 20000 in
theorem q_78_3663 (G : Nat × (Nat → Int32)) (d : Nat) (x1 : Int32) (s0 : Int32) (s2 : Int32) (σ : aH) : Lq G d M_78 (148, [some (.ref 33), some (.int x1)], [.int s0, .ref 33, .int s2, .ref 43], σ) = aCI (Rn G d 79 [.ref 33, .int s0] σ) fun v2 σ1 => Lq G d M_78 (151, [some (.ref 33), some (.int x1)], [.int v2, .int s2, .ref 43], σ1) :=
  (aUn_eq (tkd G.1 G.2) tmi (aRun (tkd G.1 G.2) tmi tmt d) M_78 [] 1 (148, [some (.ref 33), some (.int x1)], [.int s0, .ref 33, .int s2, .ref 43], σ)).trans rfl
set_option maxRecDepth 20000 in
theorem q_78_3664 (G : Nat × (Nat → Int32)) (d : Nat) (x1 : Int32) (s0 : Int32) (s1 : Int32) (σ : aH) : Lq G d M_78 (151, [some (.ref 33), some (.int x1)], [.int s0, .int s1, .ref 43], σ) = if s0 = 0 then Lq G d M_78 (158, [some (.ref 33), some (.int x1)], [.int s1, .ref 43], σ) else Lq G d M_78 (154, [some (.ref 33), some (.int x1)], [.int s1, .ref 43], σ) :=
  (aUn_eq (tkd G.1 G.2) tmi (aRun (tkd G.1 G.2) tmi tmt d) M_78 [] 1 (151, [some (.ref 33), some (.int x1)], [.int s0, .int s1, .ref 43], σ)).trans rfl
set_option maxRecDepth 20000 in
theorem q_78_3665 (G : Nat × (Nat → Int32)) (d : Nat) (x1 : Int32) (s0 : Int32) (σ : aH) : Lq G d M_78 (158, [some (.ref 33), some (.int x1)], [.int s0, .ref 43], σ) = Lq G d M_78 (159, [some (.ref 33), some (.int x1)], [.int (0 : Int32), .int s0, .ref 43], σ) :=
  (aUn_eq (tkd G.1 G.2) tmi (aRun (tkd G.1 G.2) tmi tmt d) M_78 [] 1 (158, [some (.ref 33), some (.int x1)], [.int s0, .ref 43], σ)).trans rfl
set_option maxRecDepth 20000 in
theorem q_78_3666 (G : Nat × (Nat → Int32)) (d : Nat) (x1 : Int32) (s0 : Int32) (s1 : Int32) (σ : aH) : Lq G d M_78 (159, [some (.ref 33), some (.int x1)], [.int s0, .int s1, .ref 43], σ) = aIx (s1) 120 fun j1 => Lq G d M_78 (160, [some (.ref 33), some (.int x1)], [], (aSI σ 43 j1 s0)) :=
  (aUn_eq (tkd G.1 G.2) tmi (aRun (tkd G.1 G.2) tmi tmt d) M_78 [] 1 (159, [some (.ref 33), some (.int x1)], [.int s0, .int s1, .ref 43], σ)).trans rfl
set_option maxRecDepth 20000 in
theorem q_78_3667 (G : Nat × (Nat → Int32)) (d : Nat) (x1 : Int32) (σ : aH) : Lq G d M_78 (160, [some (.ref 33), some (.int x1)], [], σ) = Lq G d M_78 (176, [some (.ref 33), some (.int x1)], [.int (60 : Int32), .int (600 : Int32), .int (0 : Int32), .int (10 : Int32), .ref 33, .int (x1 + (5 : Int32)), .ref 43], σ) :=
  (aUn_eq (tkd G.1 G.2) tmi (aRun (tkd G.1 G.2) tmi tmt d) M_78 [] 10 (160, [some (.ref 33), some (.int x1)], [], σ)).trans rfl
set_option maxRecDepth 20000 in
theorem q_78_3668 (G : Nat × (Nat → Int32)) (d : Nat) (x1 : Int32) (s0 : Int32) (s1 : Int32) (s2 : Int32) (s3 : Int32) (s5 : Int32) (σ : aH) : Lq G d M_78 (176, [some (.ref 33), some (.int x1)], [.int s0, .int s1, .int s2, .int s3, .ref 33, .int s5, .ref 43], σ) = aCI (Rn G d 77 [.ref 33, .int s3, .int s2, .int s1, .int s0] σ) fun v2 σ1 => Lq G d M_78 (179, [some (.ref 33), some (.int x1)], [.int v2, .int s5, .ref 43], σ1) :=
  (aUn_eq (tkd G.1 G.2) tmi (aRun (tkd G.1 G.2) tmi tmt d) M_78 [] 1 (176, [some (.ref 33), some (.int x1)], [.int s0, .int s1, .int s2, .int s3, .ref 33, .int s5, .ref 43], σ)).trans rfl
set_option maxRecDepth 20000 in
theorem q_78_3669 (G : Nat × (Nat → Int32)) (d : Nat) (x1 : Int32) (s0 : Int32) (s1 : Int32) (σ : aH) : Lq G d M_78 (179, [some (.ref 33), some (.int x1)], [.int s0, .int s1, .ref 43], σ) = aIx (s1) 120 fun j1 => Lq G d M_78 (180, [some (.ref 33), some (.int x1)], [], (aSI σ 43 j1 s0)) :=
  (aUn_eq (tkd G.1 G.2) tmi (aRun (tkd G.1 G.2) tmi tmt d) M_78 [] 1 (179, [some (.ref 33), some (.int x1)], [.int s0, .int s1, .ref 43], σ)).trans rfl
set_option maxRecDepth 20000 in
theorem q_78_3670 (G : Nat × (Nat → Int32)) (d : Nat) (x1 : Int32) (σ : aH) : Lq G d M_78 (180, [some (.ref 33), some (.int x1)], [], σ) = Lq G d M_78 (181, [some (.ref 33), some (.int x1)], [.ref 33], σ) :=
  (aUn_eq (tkd G.1 G.2) tmi (aRun (tkd G.1 G.2) tmi tmt d) M_78 [] 1 (180, [some (.ref 33), some (.int x1)], [], σ)).trans rfl
set_option maxRecDepth 20000 in
theorem q_78_3671 (G : Nat × (Nat → Int32)) (d : Nat) (x1 : Int32) (σ : aH) : Lq G d M_78 (181, [some (.ref 33), some (.int x1)], [.ref 33], σ) = aCI (Rn G d 67 [.ref 33] σ) fun v2 σ1 => Lq G d M_78 (184, [some (.ref 33), some (.int x1)], [.int v2], σ1) :=
  (aUn_eq (tkd G.1 G.2) tmi (aRun (tkd G.1 G.2) tmi tmt d) M_78 [] 1 (181, [some (.ref 33), some (.int x1)], [.ref 33], σ)).trans rfl
set_option maxRecDepth 20000 in
theorem q_78_3672 (G : Nat × (Nat → Int32)) (d : Nat) (x1 : Int32) (s0 : Int32) (σ : aH) : Lq G d M_78 (184, [some (.ref 33), some (.int x1)], [.int s0], σ) = if s0 = 0 then Lq G d M_78 (197, [some (.ref 33), some (.int x1)], [], σ) else Lq G d M_78 (187, [some (.ref 33), some (.int x1)], [], σ) :=
  (aUn_eq (tkd G.1 G.2) tmi (aRun (tkd G.1 G.2) tmi tmt d) M_78 [] 1 (184, [some (.ref 33), some (.int x1)], [.int s0], σ)).trans rfl
set_option maxRecDepth 20000 in
theorem q_78_3673 (G : Nat × (Nat → Int32)) (d : Nat) (x1 : Int32) (σ : aH) : Lq G d M_78 (197, [some (.ref 33), some (.int x1)], [], σ) = some (.inl none, σ) :=
  (aUn_eq (tkd G.1 G.2) tmi (aRun (tkd G.1 G.2) tmi tmt d) M_78 [] 1 (197, [some (.ref 33), some (.int x1)], [], σ)).trans rfl
set_option maxRecDepth 20000 in
theorem q_78_3674 (G : Nat × (Nat → Int32)) (d : Nat) (x1 : Int32) (σ : aH) : Lq G d M_78 (187, [some (.ref 33), some (.int x1)], [], σ) = Lq G d M_78 (197, [some (.ref 33), some (.int x1)], [], (aSI σ 33 27 ((σ.1 33 27) + (1 : Int32)))) :=
  (aUn_eq (tkd G.1 G.2) tmi (aRun (tkd G.1 G.2) tmi tmt d) M_78 [] 6 (187, [some (.ref 33), some (.int x1)], [], σ)).trans rfl
set_option maxRecDepth 20000 in
theorem q_78_3675 (G : Nat × (Nat → Int32)) (d : Nat) (x1 : Int32) (s0 : Int32) (σ : aH) : Lq G d M_78 (154, [some (.ref 33), some (.int x1)], [.int s0, .ref 43], σ) = Lq G d M_78 (159, [some (.ref 33), some (.int x1)], [.int (1 : Int32), .int s0, .ref 43], σ) :=
  (aUn_eq (tkd G.1 G.2) tmi (aRun (tkd G.1 G.2) tmi tmt d) M_78 [] 2 (154, [some (.ref 33), some (.int x1)], [.int s0, .ref 43], σ)).trans rfl
set_option maxRecDepth 20000 in
theorem q_78_3676 (G : Nat × (Nat → Int32)) (d : Nat) (x1 : Int32) (s0 : Int32) (σ : aH) : Lq G d M_78 (132, [some (.ref 33), some (.int x1)], [.int s0, .ref 43], σ) = Lq G d M_78 (137, [some (.ref 33), some (.int x1)], [.int (2 : Int32), .int s0, .ref 43], σ) :=
  (aUn_eq (tkd G.1 G.2) tmi (aRun (tkd G.1 G.2) tmi tmt d) M_78 [] 2 (132, [some (.ref 33), some (.int x1)], [.int s0, .ref 43], σ)).trans rfl
set_option maxRecDepth 20000 in
theorem q_78_3677 (G : Nat × (Nat → Int32)) (d : Nat) (x1 : Int32) (s0 : Int32) (σ : aH) : Lq G d M_78 (119, [some (.ref 33), some (.int x1)], [.int s0, .ref 43], σ) = Lq G d M_78 (137, [some (.ref 33), some (.int x1)], [.int (1 : Int32), .int s0, .ref 43], σ) :=
  (aUn_eq (tkd G.1 G.2) tmi (aRun (tkd G.1 G.2) tmi tmt d) M_78 [] 2 (119, [some (.ref 33), some (.int x1)], [.int s0, .ref 43], σ)).trans rfl
set_option maxRecDepth 20000 in
theorem q_78_3678 (G : Nat × (Nat → Int32)) (d : Nat) (x1 : Int32) (s0 : Int32) (σ : aH) : Lq G d M_78 (97, [some (.ref 33), some (.int x1)], [.int s0, .ref 43], σ) = Lq G d M_78 (102, [some (.ref 33), some (.int x1)], [.int (2 : Int32), .int s0, .ref 43], σ) :=
  (aUn_eq (tkd G.1 G.2) tmi (aRun (tkd G.1 G.2) tmi tmt d) M_78 [] 2 (97, [some (.ref 33), some (.int x1)], [.int s0, .ref 43], σ)).trans rfl
set_option maxRecDepth 20000 in
theorem q_78_3679 (G : Nat × (Nat → Int32)) (d : Nat) (x1 : Int32) (s0 : Int32) (σ : aH) : Lq G d M_78 (84, [some (.ref 33), some (.int x1)], [.int s0, .ref 43], σ) = Lq G d M_78 (102, [some (.ref 33), some (.int x1)], [.int (1 : Int32), .int s0, .ref 43], σ) :=
  (aUn_eq (tkd G.1 G.2) tmi (aRun (tkd G.1 G.2) tmi tmt d) M_78 [] 2 (84, [some (.ref 33), some (.int x1)], [.int s0, .ref 43], σ)).trans rfl
set_option maxRecDepth 20000 in
theorem q_80_3680 (G : Nat × (Nat → Int32)) (d : Nat)  (σ : aH) : Lq G d M_80 (0, [some (.ref 33), none, none], [], σ) = Lq G d M_80 (6, [some (.ref 33), none, none], [.int (6 : Int32), .int (σ.1 33 28)], σ) :=
  (aUn_eq (tkd G.1 G.2) tmi (aRun (tkd G.1 G.2) tmi tmt d) M_80 [] 3 (0, [some (.ref 33), none, none], [], σ)).trans rfl
set_option maxRecDepth 20000 in
theorem q_80_3681 (G : Nat × (Nat → Int32)) (d : Nat) (s0 : Int32) (s1 : Int32) (σ : aH) : Lq G d M_80 (6, [some (.ref 33), none, none], [.int s0, .int s1], σ) = if s1 = s0 then Lq G d M_80 (9, [some (.ref 33), none, none], [], σ) else Lq G d M_80 (14, [some (.ref 33), none, none], [], σ) :=
  (aUn_eq (tkd G.1 G.2) tmi (aRun (tkd G.1 G.2) tmi tmt d) M_80 [] 1 (6, [some (.ref 33), none, none], [.int s0, .int s1], σ)).trans rfl
set_option maxRecDepth 20000 in
theorem q_80_3682 (G : Nat × (Nat → Int32)) (d : Nat)  (σ : aH) : Lq G d M_80 (9, [some (.ref 33), none, none], [], σ) = Lq G d M_80 (11, [some (.ref 33), none, none], [.int (2 : Int32), .ref 33], σ) :=
  (aUn_eq (tkd G.1 G.2) tmi (aRun (tkd G.1 G.2) tmi tmt d) M_80 [] 2 (9, [some (.ref 33), none, none], [], σ)).trans rfl
set_option maxRecDepth 20000 in
theorem q_80_3683 (G : Nat × (Nat → Int32)) (d : Nat) (s0 : Int32) (σ : aH) : Lq G d M_80 (11, [some (.ref 33), none, none], [.int s0, .ref 33], σ) = aCV (Rn G d 73 [.ref 33, .int s0] σ) fun σ1 => Lq G d M_80 (14, [some (.ref 33), none, none], [], σ1) :=
  (aUn_eq (tkd G.1 G.2) tmi (aRun (tkd G.1 G.2) tmi tmt d) M_80 [] 1 (11, [some (.ref 33), none, none], [.int s0, .ref 33], σ)).trans rfl
set_option maxRecDepth 20000 in
theorem q_80_3684 (G : Nat × (Nat → Int32)) (d : Nat)  (σ : aH) : Lq G d M_80 (14, [some (.ref 33), none, none], [], σ) = Lq G d M_80 (15, [some (.ref 33), none, none], [.ref 33], σ) :=
  (aUn_eq (tkd G.1 G.2) tmi (aRun (tkd G.1 G.2) tmi tmt d) M_80 [] 1 (14, [some (.ref 33), none, none], [], σ)).trans rfl
set_option maxRecDepth 20000 in
theorem q_80_3685 (G : Nat × (Nat → Int32)) (d : Nat)  (σ : aH) : Lq G d M_80 (15, [some (.ref 33), none, none], [.ref 33], σ) = aCI (Rn G d 67 [.ref 33] σ) fun v2 σ1 => Lq G d M_80 (18, [some (.ref 33), none, none], [.int v2], σ1) :=
  (aUn_eq (tkd G.1 G.2) tmi (aRun (tkd G.1 G.2) tmi tmt d) M_80 [] 1 (15, [some (.ref 33), none, none], [.ref 33], σ)).trans rfl
set_option maxRecDepth 20000 in
theorem q_80_3686 (G : Nat × (Nat → Int32)) (d : Nat) (s0 : Int32) (σ : aH) : Lq G d M_80 (18, [some (.ref 33), none, none], [.int s0], σ) = if s0 = 0 then Lq G d M_80 (21, [some (.ref 33), none, none], [], σ) else Lq G d M_80 (22, [some (.ref 33), none, none], [], σ) :=
  (aUn_eq (tkd G.1 G.2) tmi (aRun (tkd G.1 G.2) tmi tmt d) M_80 [] 1 (18, [some (.ref 33), none, none], [.int s0], σ)).trans rfl
set_option maxRecDepth 20000 in
theorem q_80_3687 (G : Nat × (Nat → Int32)) (d : Nat)  (σ : aH) : Lq G d M_80 (21, [some (.ref 33), none, none], [], σ) = some (.inl none, σ) :=
  (aUn_eq (tkd G.1 G.2) tmi (aRun (tkd G.1 G.2) tmi tmt d) M_80 [] 1 (21, [some (.ref 33), none, none], [], σ)).trans rfl
set_option maxRecDepth 20000 in
theorem q_80_3688 (G : Nat × (Nat → Int32)) (d : Nat)  (σ : aH) : Lq G d M_80 (22, [some (.ref 33), none, none], [], σ) = Lq G d M_80 (23, [some (.ref 33), none, none], [.ref 33], σ) :=
  (aUn_eq (tkd G.1 G.2) tmi (aRun (tkd G.1 G.2) tmi tmt d) M_80 [] 1 (22, [some (.ref 33), none, none], [], σ)).trans rfl
set_option maxRecDepth 20000 in
theorem q_80_3689 (G : Nat × (Nat → Int32)) (d : Nat)  (σ : aH) : Lq G d M_80 (23, [some (.ref 33), none, none], [.ref 33], σ) = aCV (Rn G d 63 [.ref 33] σ) fun σ1 => Lq G d M_80 (26, [some (.ref 33), none, none], [], σ1) :=
  (aUn_eq (tkd G.1 G.2) tmi (aRun (tkd G.1 G.2) tmi tmt d) M_80 [] 1 (23, [some (.ref 33), none, none], [.ref 33], σ)).trans rfl
set_option maxRecDepth 20000 in
theorem q_80_3690 (G : Nat × (Nat → Int32)) (d : Nat)  (σ : aH) : Lq G d M_80 (26, [some (.ref 33), none, none], [], σ) = Lq G d M_80 (34, [some (.ref 33), some (.int ((5 : Int32) * (σ.1 33 28))), none], [.ref 33], σ) :=
  (aUn_eq (tkd G.1 G.2) tmi (aRun (tkd G.1 G.2) tmi tmt d) M_80 [] 6 (26, [some (.ref 33), none, none], [], σ)).trans rfl
set_option maxRecDepth 20000 in
theorem q_80_3691 (G : Nat × (Nat → Int32)) (d : Nat) (x1 : Int32) (σ : aH) : Lq G d M_80 (34, [some (.ref 33), some (.int x1), none], [.ref 33], σ) = aCI (Rn G d 69 [.ref 33] σ) fun v2 σ1 => Lq G d M_80 (37, [some (.ref 33), some (.int x1), none], [.int v2], σ1) :=
  (aUn_eq (tkd G.1 G.2) tmi (aRun (tkd G.1 G.2) tmi tmt d) M_80 [] 1 (34, [some (.ref 33), some (.int x1), none], [.ref 33], σ)).trans rfl
set_option maxRecDepth 20000 in
theorem q_80_3692 (G : Nat × (Nat → Int32)) (d : Nat) (x1 : Int32) (s0 : Int32) (σ : aH) : Lq G d M_80 (37, [some (.ref 33), some (.int x1), none], [.int s0], σ) = Lq G d M_80 (42, [some (.ref 33), some (.int x1), some (.int s0)], [.int (25 : Int32), .int s0, .ref 33], σ) :=
  (aUn_eq (tkd G.1 G.2) tmi (aRun (tkd G.1 G.2) tmi tmt d) M_80 [] 4 (37, [some (.ref 33), some (.int x1), none], [.int s0], σ)).trans rfl
set_option maxRecDepth 20000 in
theorem q_80_3693 (G : Nat × (Nat → Int32)) (d : Nat) (x1 : Int32) (x2 : Int32) (s0 : Int32) (s1 : Int32) (σ : aH) : Lq G d M_80 (42, [some (.ref 33), some (.int x1), some (.int x2)], [.int s0, .int s1, .ref 33], σ) = if s1 = s0 then Lq G d M_80 (57, [some (.ref 33), some (.int x1), some (.int x2)], [.ref 33], σ) else Lq G d M_80 (45, [some (.ref 33), some (.int x1), some (.int x2)], [.ref 33], σ) :=
  (aUn_eq (tkd G.1 G.2) tmi (aRun (tkd G.1 G.2) tmi tmt d) M_80 [] 1 (42, [some (.ref 33), some (.int x1), some (.int x2)], [.int s0, .int s1, .ref 33], σ)).trans rfl
set_option maxRecDepth 20000 in
theorem q_80_3694 (G : Nat × (Nat → Int32)) (d : Nat) (x1 : Int32) (x2 : Int32) (σ : aH) : Lq G d M_80 (57, [some (.ref 33), some (.int x1), some (.int x2)], [.ref 33], σ) = Lq G d M_80 (62, [some (.ref 33), some (.int x1), some (.int x2)], [.int (1 : Int32), .ref 33], σ) :=
  (aUn_eq (tkd G.1 G.2) tmi (aRun (tkd G.1 G.2) tmi tmt d) M_80 [] 2 (57, [some (.ref 33), some (.int x1), some (.int x2)], [.ref 33], σ)).trans rfl
set_option maxRecDepth 20000 in
theorem q_80_3695 (G : Nat × (Nat → Int32)) (d : Nat) (x1 : Int32) (x2 : Int32) (s0 : Int32) (σ : aH) : Lq G d M_80 (62, [some (.ref 33), some (.int x1), some (.int x2)], [.int s0, .ref 33], σ) = aCV (Rn G d 75 [.ref 33, .int s0] σ) fun σ1 => Lq G d M_80 (65, [some (.ref 33), some (.int x1), some (.int x2)], [], σ1) :=
  (aUn_eq (tkd G.1 G.2) tmi (aRun (tkd G.1 G.2) tmi tmt d) M_80 [] 1 (62, [some (.ref 33), some (.int x1), some (.int x2)], [.int s0, .ref 33], σ)).trans rfl
set_option maxRecDepth 20000 in
theorem q_80_3696 (G : Nat × (Nat → Int32)) (d : Nat) (x1 : Int32) (x2 : Int32) (σ : aH) : Lq G d M_80 (65, [some (.ref 33), some (.int x1), some (.int x2)], [], σ) = Lq G d M_80 (73, [some (.ref 33), some (.int x1), some (.int x2)], [.int (25 : Int32), .int x2, .int x1, .ref 44], σ) :=
  (aUn_eq (tkd G.1 G.2) tmi (aRun (tkd G.1 G.2) tmi tmt d) M_80 [] 5 (65, [some (.ref 33), some (.int x1), some (.int x2)], [], σ)).trans rfl
set_option maxRecDepth 20000 in
theorem q_80_3697 (G : Nat × (Nat → Int32)) (d : Nat) (x1 : Int32) (x2 : Int32) (s0 : Int32) (s1 : Int32) (s2 : Int32) (σ : aH) : Lq G d M_80 (73, [some (.ref 33), some (.int x1), some (.int x2)], [.int s0, .int s1, .int s2, .ref 44], σ) = if s1 = s0 then Lq G d M_80 (76, [some (.ref 33), some (.int x1), some (.int x2)], [.int s2, .ref 44], σ) else Lq G d M_80 (80, [some (.ref 33), some (.int x1), some (.int x2)], [.int s2, .ref 44], σ) :=
  (aUn_eq (tkd G.1 G.2) tmi (aRun (tkd G.1 G.2) tmi tmt d) M_80 [] 1 (73, [some (.ref 33), some (.int x1), some (.int x2)], [.int s0, .int s1, .int s2, .ref 44], σ)).trans rfl
set_option maxRecDepth 20000 in
theorem q_80_3698 (G : Nat × (Nat → Int32)) (d : Nat) (x1 : Int32) (x2 : Int32) (s0 : Int32) (σ : aH) : Lq G d M_80 (76, [some (.ref 33), some (.int x1), some (.int x2)], [.int s0, .ref 44], σ) = Lq G d M_80 (91, [some (.ref 33), some (.int x1), some (.int x2)], [.int (0 : Int32), .int s0, .ref 44], σ) :=
  (aUn_eq (tkd G.1 G.2) tmi (aRun (tkd G.1 G.2) tmi tmt d) M_80 [] 2 (76, [some (.ref 33), some (.int x1), some (.int x2)], [.int s0, .ref 44], σ)).trans rfl
set_option maxRecDepth 20000 in
theorem q_80_3699 (G : Nat × (Nat → Int32)) (d : Nat) (x1 : Int32) (x2 : Int32) (s0 : Int32) (s1 : Int32) (σ : aH) : Lq G d M_80 (91, [some (.ref 33), some (.int x1), some (.int x2)], [.int s0, .int s1, .ref 44], σ) = aIx (s1) 30 fun j1 => Lq G d M_80 (92, [some (.ref 33), some (.int x1), some (.int x2)], [], (aSI σ 44 j1 s0)) :=
  (aUn_eq (tkd G.1 G.2) tmi (aRun (tkd G.1 G.2) tmi tmt d) M_80 [] 1 (91, [some (.ref 33), some (.int x1), some (.int x2)], [.int s0, .int s1, .ref 44], σ)).trans rfl
set_option maxRecDepth 20000 in
theorem q_80_3700 (G : Nat × (Nat → Int32)) (d : Nat) (x1 : Int32) (x2 : Int32) (σ : aH) : Lq G d M_80 (92, [some (.ref 33), some (.int x1), some (.int x2)], [], σ) = Lq G d M_80 (109, [some (.ref 33), some (.int x1), some (.int x2)], [.int (300 : Int32), .int (1000 : Int32), .int (1 : Int32), .int (27 : Int32), .ref 33, .int (x1 + (1 : Int32)), .ref 44], σ) :=
  (aUn_eq (tkd G.1 G.2) tmi (aRun (tkd G.1 G.2) tmi tmt d) M_80 [] 10 (92, [some (.ref 33), some (.int x1), some (.int x2)], [], σ)).trans rfl
set_option maxRecDepth 20000 in
theorem q_80_3701 (G : Nat × (Nat → Int32)) (d : Nat) (x1 : Int32) (x2 : Int32) (s0 : Int32) (s1 : Int32) (s2 : Int32) (s3 : Int32) (s5 : Int32) (σ : aH) : Lq G d M_80 (109, [some (.ref 33), some (.int x1), some (.int x2)], [.int s0, .int s1, .int s2, .int s3, .ref 33, .int s5, .ref 44], σ) = aCI (Rn G d 77 [.ref 33, .int s3, .int s2, .int s1, .int s0] σ) fun v2 σ1 => Lq G d M_80 (112, [some (.ref 33), some (.int x1), some (.int x2)], [.int v2, .int s5, .ref 44], σ1) :=
  (aUn_eq (tkd G.1 G.2) tmi (aRun (tkd G.1 G.2) tmi tmt d) M_80 [] 1 (109, [some (.ref 33), some (.int x1), some (.int x2)], [.int s0, .int s1, .int s2, .int s3, .ref 33, .int s5, .ref 44], σ)).trans rfl
set_option maxRecDepth 20000 in
theorem q_80_3702 (G : Nat × (Nat → Int32)) (d : Nat) (x1 : Int32) (x2 : Int32) (s0 : Int32) (s1 : Int32) (σ : aH) : Lq G d M_80 (112, [some (.ref 33), some (.int x1), some (.int x2)], [.int s0, .int s1, .ref 44], σ) = aIx (s1) 30 fun j1 => Lq G d M_80 (113, [some (.ref 33), some (.int x1), some (.int x2)], [], (aSI σ 44 j1 s0)) :=
  (aUn_eq (tkd G.1 G.2) tmi (aRun (tkd G.1 G.2) tmi tmt d) M_80 [] 1 (112, [some (.ref 33), some (.int x1), some (.int x2)], [.int s0, .int s1, .ref 44], σ)).trans rfl
set_option maxRecDepth 20000 in
theorem q_80_3703 (G : Nat × (Nat → Int32)) (d : Nat) (x1 : Int32) (x2 : Int32) (σ : aH) : Lq G d M_80 (113, [some (.ref 33), some (.int x1), some (.int x2)], [], σ) = Lq G d M_80 (128, [some (.ref 33), some (.int x1), some (.int x2)], [.int (20 : Int32), .int (99 : Int32), .int (1 : Int32), .int (28 : Int32), .ref 33, .int (x1 + (2 : Int32)), .ref 44], σ) :=
  (aUn_eq (tkd G.1 G.2) tmi (aRun (tkd G.1 G.2) tmi tmt d) M_80 [] 10 (113, [some (.ref 33), some (.int x1), some (.int x2)], [], σ)).trans rfl
set_option maxRecDepth 20000 in
theorem q_80_3704 (G : Nat × (Nat → Int32)) (d : Nat) (x1 : Int32) (x2 : Int32) (s0 : Int32) (s1 : Int32) (s2 : Int32) (s3 : Int32) (s5 : Int32) (σ : aH) : Lq G d M_80 (128, [some (.ref 33), some (.int x1), some (.int x2)], [.int s0, .int s1, .int s2, .int s3, .ref 33, .int s5, .ref 44], σ) = aCI (Rn G d 77 [.ref 33, .int s3, .int s2, .int s1, .int s0] σ) fun v2 σ1 => Lq G d M_80 (131, [some (.ref 33), some (.int x1), some (.int x2)], [.int v2, .int s5, .ref 44], σ1) :=
  (aUn_eq (tkd G.1 G.2) tmi (aRun (tkd G.1 G.2) tmi tmt d) M_80 [] 1 (128, [some (.ref 33), some (.int x1), some (.int x2)], [.int s0, .int s1, .int s2, .int s3, .ref 33, .int s5, .ref 44], σ)).trans rfl
set_option maxRecDepth 20000 in
theorem q_80_3705 (G : Nat × (Nat → Int32)) (d : Nat) (x1 : Int32) (x2 : Int32) (s0 : Int32) (s1 : Int32) (σ : aH) : Lq G d M_80 (131, [some (.ref 33), some (.int x1), some (.int x2)], [.int s0, .int s1, .ref 44], σ) = aIx (s1) 30 fun j1 => Lq G d M_80 (132, [some (.ref 33), some (.int x1), some (.int x2)], [], (aSI σ 44 j1 s0)) :=
  (aUn_eq (tkd G.1 G.2) tmi (aRun (tkd G.1 G.2) tmi tmt d) M_80 [] 1 (131, [some (.ref 33), some (.int x1), some (.int x2)], [.int s0, .int s1, .ref 44], σ)).trans rfl
set_option maxRecDepth 20000 in
theorem q_80_3706 (G : Nat × (Nat → Int32)) (d : Nat) (x1 : Int32) (x2 : Int32) (σ : aH) : Lq G d M_80 (132, [some (.ref 33), some (.int x1), some (.int x2)], [], σ) = Lq G d M_80 (148, [some (.ref 33), some (.int x1), some (.int x2)], [.int (100 : Int32), .int (1000 : Int32), .int (0 : Int32), .int (29 : Int32), .ref 33, .int (x1 + (3 : Int32)), .ref 44], σ) :=
  (aUn_eq (tkd G.1 G.2) tmi (aRun (tkd G.1 G.2) tmi tmt d) M_80 [] 10 (132, [some (.ref 33), some (.int x1), some (.int x2)], [], σ)).trans rfl
set_option maxRecDepth 20000 in
theorem q_80_3707 (G : Nat × (Nat → Int32)) (d : Nat) (x1 : Int32) (x2 : Int32) (s0 : Int32) (s1 : Int32) (s2 : Int32) (s3 : Int32) (s5 : Int32) (σ : aH) : Lq G d M_80 (148, [some (.ref 33), some (.int x1), some (.int x2)], [.int s0, .int s1, .int s2, .int s3, .ref 33, .int s5, .ref 44], σ) = aCI (Rn G d 77 [.ref 33, .int s3, .int s2, .int s1, .int s0] σ) fun v2 σ1 => Lq G d M_80 (151, [some (.ref 33), some (.int x1), some (.int x2)], [.int v2, .int s5, .ref 44], σ1) :=
  (aUn_eq (tkd G.1 G.2) tmi (aRun (tkd G.1 G.2) tmi tmt d) M_80 [] 1 (148, [some (.ref 33), some (.int x1), some (.int x2)], [.int s0, .int s1, .int s2, .int s3, .ref 33, .int s5, .ref 44], σ)).trans rfl
set_option maxRecDepth 20000 in
theorem q_80_3708 (G : Nat × (Nat → Int32)) (d : Nat) (x1 : Int32) (x2 : Int32) (s0 : Int32) (s1 : Int32) (σ : aH) : Lq G d M_80 (151, [some (.ref 33), some (.int x1), some (.int x2)], [.int s0, .int s1, .ref 44], σ) = aIx (s1) 30 fun j1 => Lq G d M_80 (152, [some (.ref 33), some (.int x1), some (.int x2)], [], (aSI σ 44 j1 s0)) :=
  (aUn_eq (tkd G.1 G.2) tmi (aRun (tkd G.1 G.2) tmi tmt d) M_80 [] 1 (151, [some (.ref 33), some (.int x1), some (.int x2)], [.int s0, .int s1, .ref 44], σ)).trans rfl
set_option maxRecDepth 20000 in
theorem q_80_3709 (G : Nat × (Nat → Int32)) (d : Nat) (x1 : Int32) (x2 : Int32) (σ : aH) : Lq G d M_80 (152, [some (.ref 33), some (.int x1), some (.int x2)], [], σ) = Lq G d M_80 (169, [some (.ref 33), some (.int x1), some (.int x2)], [.int (300 : Int32), .int (1000 : Int32), .int (0 : Int32), .int (30 : Int32), .ref 33, .int (x1 + (4 : Int32)), .ref 44], σ) :=
  (aUn_eq (tkd G.1 G.2) tmi (aRun (tkd G.1 G.2) tmi tmt d) M_80 [] 10 (152, [some (.ref 33), some (.int x1), some (.int x2)], [], σ)).trans rfl
set_option maxRecDepth 20000 in
theorem q_80_3710 (G : Nat × (Nat → Int32)) (d : Nat) (x1 : Int32) (x2 : Int32) (s0 : Int32) (s1 : Int32) (s2 : Int32) (s3 : Int32) (s5 : Int32) (σ : aH) : Lq G d M_80 (169, [some (.ref 33), some (.int x1), some (.int x2)], [.int s0, .int s1, .int s2, .int s3, .ref 33, .int s5, .ref 44], σ) = aCI (Rn G d 77 [.ref 33, .int s3, .int s2, .int s1, .int s0] σ) fun v2 σ1 => Lq G d M_80 (172, [some (.ref 33), some (.int x1), some (.int x2)], [.int v2, .int s5, .ref 44], σ1) :=
  (aUn_eq (tkd G.1 G.2) tmi (aRun (tkd G.1 G.2) tmi tmt d) M_80 [] 1 (169, [some (.ref 33), some (.int x1), some (.int x2)], [.int s0, .int s1, .int s2, .int s3, .ref 33, .int s5, .ref 44], σ)).trans rfl
set_option maxRecDepth 20000 in
theorem q_80_3711 (G : Nat × (Nat → Int32)) (d : Nat) (x1 : Int32) (x2 : Int32) (s0 : Int32) (s1 : Int32) (σ : aH) : Lq G d M_80 (172, [some (.ref 33), some (.int x1), some (.int x2)], [.int s0, .int s1, .ref 44], σ) = aIx (s1) 30 fun j1 => Lq G d M_80 (173, [some (.ref 33), some (.int x1), some (.int x2)], [], (aSI σ 44 j1 s0)) :=
  (aUn_eq (tkd G.1 G.2) tmi (aRun (tkd G.1 G.2) tmi tmt d) M_80 [] 1 (172, [some (.ref 33), some (.int x1), some (.int x2)], [.int s0, .int s1, .ref 44], σ)).trans rfl
set_option maxRecDepth 20000 in
theorem q_80_3712 (G : Nat × (Nat → Int32)) (d : Nat) (x1 : Int32) (x2 : Int32) (σ : aH) : Lq G d M_80 (173, [some (.ref 33), some (.int x1), some (.int x2)], [], σ) = Lq G d M_80 (174, [some (.ref 33), some (.int x1), some (.int x2)], [.ref 33], σ) :=
  (aUn_eq (tkd G.1 G.2) tmi (aRun (tkd G.1 G.2) tmi tmt d) M_80 [] 1 (173, [some (.ref 33), some (.int x1), some (.int x2)], [], σ)).trans rfl
set_option maxRecDepth 20000 in
theorem q_80_3713 (G : Nat × (Nat → Int32)) (d : Nat) (x1 : Int32) (x2 : Int32) (σ : aH) : Lq G d M_80 (174, [some (.ref 33), some (.int x1), some (.int x2)], [.ref 33], σ) = aCI (Rn G d 67 [.ref 33] σ) fun v2 σ1 => Lq G d M_80 (177, [some (.ref 33), some (.int x1), some (.int x2)], [.int v2], σ1) :=
  (aUn_eq (tkd G.1 G.2) tmi (aRun (tkd G.1 G.2) tmi tmt d) M_80 [] 1 (174, [some (.ref 33), some (.int x1), some (.int x2)], [.ref 33], σ)).trans rfl
set_option maxRecDepth 20000 in
theorem q_80_3714 (G : Nat × (Nat → Int32)) (d : Nat) (x1 : Int32) (x2 : Int32) (s0 : Int32) (σ : aH) : Lq G d M_80 (177, [some (.ref 33), some (.int x1), some (.int x2)], [.int s0], σ) = if s0 = 0 then Lq G d M_80 (190, [some (.ref 33), some (.int x1), some (.int x2)], [], σ) else Lq G d M_80 (180, [some (.ref 33), some (.int x1), some (.int x2)], [], σ) :=
  (aUn_eq (tkd G.1 G.2) tmi (aRun (tkd G.1 G.2) tmi tmt d) M_80 [] 1 (177, [some (.ref 33), some (.int x1), some (.int x2)], [.int s0], σ)).trans rfl
set_option maxRecDepth 20000 in
theorem q_80_3715 (G : Nat × (Nat → Int32)) (d : Nat) (x1 : Int32) (x2 : Int32) (σ : aH) : Lq G d M_80 (190, [some (.ref 33), some (.int x1), some (.int x2)], [], σ) = some (.inl none, σ) :=
  (aUn_eq (tkd G.1 G.2) tmi (aRun (tkd G.1 G.2) tmi tmt d) M_80 [] 1 (190, [some (.ref 33), some (.int x1), some (.int x2)], [], σ)).trans rfl
set_option maxRecDepth 20000 in
theorem q_80_3716 (G : Nat × (Nat → Int32)) (d : Nat) (x1 : Int32) (x2 : Int32) (σ : aH) : Lq G d M_80 (180, [some (.ref 33), some (.int x1), some (.int x2)], [], σ) = Lq G d M_80 (190, [some (.ref 33), some (.int x1), some (.int x2)], [], (aSI σ 33 28 ((σ.1 33 28) + (1 : Int32)))) :=
  (aUn_eq (tkd G.1 G.2) tmi (aRun (tkd G.1 G.2) tmi tmt d) M_80 [] 6 (180, [some (.ref 33), some (.int x1), some (.int x2)], [], σ)).trans rfl
set_option maxRecDepth 20000 in
theorem q_80_3717 (G : Nat × (Nat → Int32)) (d : Nat) (x1 : Int32) (x2 : Int32) (s0 : Int32) (σ : aH) : Lq G d M_80 (80, [some (.ref 33), some (.int x1), some (.int x2)], [.int s0, .ref 44], σ) = Lq G d M_80 (83, [some (.ref 33), some (.int x1), some (.int x2)], [.int (26 : Int32), .int x2, .int s0, .ref 44], σ) :=
  (aUn_eq (tkd G.1 G.2) tmi (aRun (tkd G.1 G.2) tmi tmt d) M_80 [] 2 (80, [some (.ref 33), some (.int x1), some (.int x2)], [.int s0, .ref 44], σ)).trans rfl
set_option maxRecDepth 20000 in
theorem q_80_3718 (G : Nat × (Nat → Int32)) (d : Nat) (x1 : Int32) (x2 : Int32) (s0 : Int32) (s1 : Int32) (s2 : Int32) (σ : aH) : Lq G d M_80 (83, [some (.ref 33), some (.int x1), some (.int x2)], [.int s0, .int s1, .int s2, .ref 44], σ) = if s1 = s0 then Lq G d M_80 (86, [some (.ref 33), some (.int x1), some (.int x2)], [.int s2, .ref 44], σ) else Lq G d M_80 (90, [some (.ref 33), some (.int x1), some (.int x2)], [.int s2, .ref 44], σ) :=
  (aUn_eq (tkd G.1 G.2) tmi (aRun (tkd G.1 G.2) tmi tmt d) M_80 [] 1 (83, [some (.ref 33), some (.int x1), some (.int x2)], [.int s0, .int s1, .int s2, .ref 44], σ)).trans rfl
set_option maxRecDepth 20000 in
theorem q_80_3719 (G : Nat × (Nat → Int32)) (d : Nat) (x1 : Int32) (x2 : Int32) (s0 : Int32) (σ : aH) : Lq G d M_80 (86, [some (.ref 33), some (.int x1), some (.int x2)], [.int s0, .ref 44], σ) = Lq G d M_80 (91, [some (.ref 33), some (.int x1), some (.int x2)], [.int (1 : Int32), .int s0, .ref 44], σ) :=
  (aUn_eq (tkd G.1 G.2) tmi (aRun (tkd G.1 G.2) tmi tmt d) M_80 [] 2 (86, [some (.ref 33), some (.int x1), some (.int x2)], [.int s0, .ref 44], σ)).trans rfl
set_option maxRecDepth 20000 in
theorem q_80_3720 (G : Nat × (Nat → Int32)) (d : Nat) (x1 : Int32) (x2 : Int32) (s0 : Int32) (σ : aH) : Lq G d M_80 (90, [some (.ref 33), some (.int x1), some (.int x2)], [.int s0, .ref 44], σ) = Lq G d M_80 (91, [some (.ref 33), some (.int x1), some (.int x2)], [.int (2 : Int32), .int s0, .ref 44], σ) :=
  (aUn_eq (tkd G.1 G.2) tmi (aRun (tkd G.1 G.2) tmi tmt d) M_80 [] 1 (90, [some (.ref 33), some (.int x1), some (.int x2)], [.int s0, .ref 44], σ)).trans rfl
set_option maxRecDepth 20000 in
theorem q_80_3721 (G : Nat × (Nat → Int32)) (d : Nat) (x1 : Int32) (x2 : Int32) (σ : aH) : Lq G d M_80 (45, [some (.ref 33), some (.int x1), some (.int x2)], [.ref 33], σ) = Lq G d M_80 (48, [some (.ref 33), some (.int x1), some (.int x2)], [.int (26 : Int32), .int x2, .ref 33], σ) :=
  (aUn_eq (tkd G.1 G.2) tmi (aRun (tkd G.1 G.2) tmi tmt d) M_80 [] 2 (45, [some (.ref 33), some (.int x1), some (.int x2)], [.ref 33], σ)).trans rfl
set_option maxRecDepth 20000 in
theorem q_80_3722 (G : Nat × (Nat → Int32)) (d : Nat) (x1 : Int32) (x2 : Int32) (s0 : Int32) (s1 : Int32) (σ : aH) : Lq G d M_80 (48, [some (.ref 33), some (.int x1), some (.int x2)], [.int s0, .int s1, .ref 33], σ) = if s1 = s0 then Lq G d M_80 (57, [some (.ref 33), some (.int x1), some (.int x2)], [.ref 33], σ) else Lq G d M_80 (51, [some (.ref 33), some (.int x1), some (.int x2)], [.ref 33], σ) :=
  (aUn_eq (tkd G.1 G.2) tmi (aRun (tkd G.1 G.2) tmi tmt d) M_80 [] 1 (48, [some (.ref 33), some (.int x1), some (.int x2)], [.int s0, .int s1, .ref 33], σ)).trans rfl
set_option maxRecDepth 20000 in
theorem q_80_3723 (G : Nat × (Nat → Int32)) (d : Nat) (x1 : Int32) (x2 : Int32) (σ : aH) : Lq G d M_80 (51, [some (.ref 33), some (.int x1), some (.int x2)], [.ref 33], σ) = Lq G d M_80 (54, [some (.ref 33), some (.int x1), some (.int x2)], [.int (18 : Int32), .int x2, .ref 33], σ) :=
  (aUn_eq (tkd G.1 G.2) tmi (aRun (tkd G.1 G.2) tmi tmt d) M_80 [] 2 (51, [some (.ref 33), some (.int x1), some (.int x2)], [.ref 33], σ)).trans rfl
set_option maxRecDepth 20000 in
theorem q_80_3724 (G : Nat × (Nat → Int32)) (d : Nat) (x1 : Int32) (x2 : Int32) (s0 : Int32) (s1 : Int32) (σ : aH) : Lq G d M_80 (54, [some (.ref 33), some (.int x1), some (.int x2)], [.int s0, .int s1, .ref 33], σ) = if s1 = s0 then Lq G d M_80 (57, [some (.ref 33), some (.int x1), some (.int x2)], [.ref 33], σ) else Lq G d M_80 (61, [some (.ref 33), some (.int x1), some (.int x2)], [.ref 33], σ) :=
  (aUn_eq (tkd G.1 G.2) tmi (aRun (tkd G.1 G.2) tmi tmt d) M_80 [] 1 (54, [some (.ref 33), some (.int x1), some (.int x2)], [.int s0, .int s1, .ref 33], σ)).trans rfl
set_option maxRecDepth 20000 in
theorem q_80_3725 (G : Nat × (Nat → Int32)) (d : Nat) (x1 : Int32) (x2 : Int32) (σ : aH) : Lq G d M_80 (61, [some (.ref 33), some (.int x1), some (.int x2)], [.ref 33], σ) = Lq G d M_80 (62, [some (.ref 33), some (.int x1), some (.int x2)], [.int (0 : Int32), .ref 33], σ) :=
  (aUn_eq (tkd G.1 G.2) tmi (aRun (tkd G.1 G.2) tmi tmt d) M_80 [] 1 (61, [some (.ref 33), some (.int x1), some (.int x2)], [.ref 33], σ)).trans rfl
set_option maxRecDepth 20000 in
theorem q_81_3726 (G : Nat × (Nat → Int32)) (d : Nat)  (σ : aH) : Lq G d M_81 (0, [some (.ref 33), none], [], σ) = Lq G d M_81 (6, [some (.ref 33), none], [.int (12 : Int32), .int (σ.1 33 29)], σ) :=
  (aUn_eq (tkd G.1 G.2) tmi (aRun (tkd G.1 G.2) tmi tmt d) M_81 [] 3 (0, [some (.ref 33), none], [], σ)).trans rfl
set_option maxRecDepth 20000 in
theorem q_81_3727 (G : Nat × (Nat → Int32)) (d : Nat) (s0 : Int32) (s1 : Int32) (σ : aH) : Lq G d M_81 (6, [some (.ref 33), none], [.int s0, .int s1], σ) = if s1 = s0 then Lq G d M_81 (9, [some (.ref 33), none], [], σ) else Lq G d M_81 (14, [some (.ref 33), none], [], σ) :=
  (aUn_eq (tkd G.1 G.2) tmi (aRun (tkd G.1 G.2) tmi tmt d) M_81 [] 1 (6, [some (.ref 33), none], [.int s0, .int s1], σ)).trans rfl
set_option maxRecDepth 20000 in
theorem q_81_3728 (G : Nat × (Nat → Int32)) (d : Nat)  (σ : aH) : Lq G d M_81 (9, [some (.ref 33), none], [], σ) = Lq G d M_81 (11, [some (.ref 33), none], [.int (2 : Int32), .ref 33], σ) :=
  (aUn_eq (tkd G.1 G.2) tmi (aRun (tkd G.1 G.2) tmi tmt d) M_81 [] 2 (9, [some (.ref 33), none], [], σ)).trans rfl
set_option maxRecDepth 20000 in
theorem q_81_3729 (G : Nat × (Nat → Int32)) (d : Nat) (s0 : Int32) (σ : aH) : Lq G d M_81 (11, [some (.ref 33), none], [.int s0, .ref 33], σ) = aCV (Rn G d 73 [.ref 33, .int s0] σ) fun σ1 => Lq G d M_81 (14, [some (.ref 33), none], [], σ1) :=
  (aUn_eq (tkd G.1 G.2) tmi (aRun (tkd G.1 G.2) tmi tmt d) M_81 [] 1 (11, [some (.ref 33), none], [.int s0, .ref 33], σ)).trans rfl
set_option maxRecDepth 20000 in
theorem q_81_3730 (G : Nat × (Nat → Int32)) (d : Nat)  (σ : aH) : Lq G d M_81 (14, [some (.ref 33), none], [], σ) = Lq G d M_81 (15, [some (.ref 33), none], [.ref 33], σ) :=
  (aUn_eq (tkd G.1 G.2) tmi (aRun (tkd G.1 G.2) tmi tmt d) M_81 [] 1 (14, [some (.ref 33), none], [], σ)).trans rfl
set_option maxRecDepth 20000 in
theorem q_81_3731 (G : Nat × (Nat → Int32)) (d : Nat)  (σ : aH) : Lq G d M_81 (15, [some (.ref 33), none], [.ref 33], σ) = aCI (Rn G d 67 [.ref 33] σ) fun v2 σ1 => Lq G d M_81 (18, [some (.ref 33), none], [.int v2], σ1) :=
  (aUn_eq (tkd G.1 G.2) tmi (aRun (tkd G.1 G.2) tmi tmt d) M_81 [] 1 (15, [some (.ref 33), none], [.ref 33], σ)).trans rfl
set_option maxRecDepth 20000 in
theorem q_81_3732 (G : Nat × (Nat → Int32)) (d : Nat) (s0 : Int32) (σ : aH) : Lq G d M_81 (18, [some (.ref 33), none], [.int s0], σ) = if s0 = 0 then Lq G d M_81 (21, [some (.ref 33), none], [], σ) else Lq G d M_81 (22, [some (.ref 33), none], [], σ) :=
  (aUn_eq (tkd G.1 G.2) tmi (aRun (tkd G.1 G.2) tmi tmt d) M_81 [] 1 (18, [some (.ref 33), none], [.int s0], σ)).trans rfl
set_option maxRecDepth 20000 in
theorem q_81_3733 (G : Nat × (Nat → Int32)) (d : Nat)  (σ : aH) : Lq G d M_81 (21, [some (.ref 33), none], [], σ) = some (.inl none, σ) :=
  (aUn_eq (tkd G.1 G.2) tmi (aRun (tkd G.1 G.2) tmi tmt d) M_81 [] 1 (21, [some (.ref 33), none], [], σ)).trans rfl
set_option maxRecDepth 20000 in
theorem q_81_3734 (G : Nat × (Nat → Int32)) (d : Nat)  (σ : aH) : Lq G d M_81 (22, [some (.ref 33), none], [], σ) = Lq G d M_81 (23, [some (.ref 33), none], [.ref 33], σ) :=
  (aUn_eq (tkd G.1 G.2) tmi (aRun (tkd G.1 G.2) tmi tmt d) M_81 [] 1 (22, [some (.ref 33), none], [], σ)).trans rfl
set_option maxRecDepth 20000 in
theorem q_81_3735 (G : Nat × (Nat → Int32)) (d : Nat)  (σ : aH) : Lq G d M_81 (23, [some (.ref 33), none], [.ref 33], σ) = aCV (Rn G d 63 [.ref 33] σ) fun σ1 => Lq G d M_81 (26, [some (.ref 33), none], [], σ1) :=
  (aUn_eq (tkd G.1 G.2) tmi (aRun (tkd G.1 G.2) tmi tmt d) M_81 [] 1 (23, [some (.ref 33), none], [.ref 33], σ)).trans rfl
set_option maxRecDepth 20000 in
theorem q_81_3736 (G : Nat × (Nat → Int32)) (d : Nat)  (σ : aH) : Lq G d M_81 (26, [some (.ref 33), none], [], σ) = Lq G d M_81 (27, [some (.ref 33), none], [.ref 33], σ) :=
  (aUn_eq (tkd G.1 G.2) tmi (aRun (tkd G.1 G.2) tmi tmt d) M_81 [] 1 (26, [some (.ref 33), none], [], σ)).trans rfl
set_option maxRecDepth 20000 in
theorem q_81_3737 (G : Nat × (Nat → Int32)) (d : Nat)  (σ : aH) : Lq G d M_81 (27, [some (.ref 33), none], [.ref 33], σ) = aCI (Rn G d 69 [.ref 33] σ) fun v2 σ1 => Lq G d M_81 (30, [some (.ref 33), none], [.int v2], σ1) :=
  (aUn_eq (tkd G.1 G.2) tmi (aRun (tkd G.1 G.2) tmi tmt d) M_81 [] 1 (27, [some (.ref 33), none], [.ref 33], σ)).trans rfl
set_option maxRecDepth 20000 in
theorem q_81_3738 (G : Nat × (Nat → Int32)) (d : Nat) (s0 : Int32) (σ : aH) : Lq G d M_81 (30, [some (.ref 33), none], [.int s0], σ) = Lq G d M_81 (33, [some (.ref 33), some (.int s0)], [.int s0, .ref 33], σ) :=
  (aUn_eq (tkd G.1 G.2) tmi (aRun (tkd G.1 G.2) tmi tmt d) M_81 [] 3 (30, [some (.ref 33), none], [.int s0], σ)).trans rfl
set_option maxRecDepth 20000 in
theorem q_81_3739 (G : Nat × (Nat → Int32)) (d : Nat) (x1 : Int32) (s0 : Int32) (σ : aH) : Lq G d M_81 (33, [some (.ref 33), some (.int x1)], [.int s0, .ref 33], σ) = if s0 = 0 then Lq G d M_81 (41, [some (.ref 33), some (.int x1)], [.ref 33], σ) else Lq G d M_81 (36, [some (.ref 33), some (.int x1)], [.ref 33], σ) :=
  (aUn_eq (tkd G.1 G.2) tmi (aRun (tkd G.1 G.2) tmi tmt d) M_81 [] 1 (33, [some (.ref 33), some (.int x1)], [.int s0, .ref 33], σ)).trans rfl
set_option maxRecDepth 20000 in
theorem q_81_3740 (G : Nat × (Nat → Int32)) (d : Nat) (x1 : Int32) (σ : aH) : Lq G d M_81 (41, [some (.ref 33), some (.int x1)], [.ref 33], σ) = Lq G d M_81 (46, [some (.ref 33), some (.int x1)], [.int (1 : Int32), .ref 33], σ) :=
  (aUn_eq (tkd G.1 G.2) tmi (aRun (tkd G.1 G.2) tmi tmt d) M_81 [] 2 (41, [some (.ref 33), some (.int x1)], [.ref 33], σ)).trans rfl
set_option maxRecDepth 20000 in
theorem q_81_3741 (G : Nat × (Nat → Int32)) (d : Nat) (x1 : Int32) (s0 : Int32) (σ : aH) : Lq G d M_81 (46, [some (.ref 33), some (.int x1)], [.int s0, .ref 33], σ) = aCV (Rn G d 75 [.ref 33, .int s0] σ) fun σ1 => Lq G d M_81 (49, [some (.ref 33), some (.int x1)], [], σ1) :=
  (aUn_eq (tkd G.1 G.2) tmi (aRun (tkd G.1 G.2) tmi tmt d) M_81 [] 1 (46, [some (.ref 33), some (.int x1)], [.int s0, .ref 33], σ)).trans rfl
set_option maxRecDepth 20000 in
theorem q_81_3742 (G : Nat × (Nat → Int32)) (d : Nat) (x1 : Int32) (σ : aH) : Lq G d M_81 (49, [some (.ref 33), some (.int x1)], [], σ) = Lq G d M_81 (50, [some (.ref 33), some (.int x1)], [.ref 33], σ) :=
  (aUn_eq (tkd G.1 G.2) tmi (aRun (tkd G.1 G.2) tmi tmt d) M_81 [] 1 (49, [some (.ref 33), some (.int x1)], [], σ)).trans rfl
set_option maxRecDepth 20000 in
theorem q_81_3743 (G : Nat × (Nat → Int32)) (d : Nat) (x1 : Int32) (σ : aH) : Lq G d M_81 (50, [some (.ref 33), some (.int x1)], [.ref 33], σ) = aCI (Rn G d 67 [.ref 33] σ) fun v2 σ1 => Lq G d M_81 (53, [some (.ref 33), some (.int x1)], [.int v2], σ1) :=
  (aUn_eq (tkd G.1 G.2) tmi (aRun (tkd G.1 G.2) tmi tmt d) M_81 [] 1 (50, [some (.ref 33), some (.int x1)], [.ref 33], σ)).trans rfl
set_option maxRecDepth 20000 in
theorem q_81_3744 (G : Nat × (Nat → Int32)) (d : Nat) (x1 : Int32) (s0 : Int32) (σ : aH) : Lq G d M_81 (53, [some (.ref 33), some (.int x1)], [.int s0], σ) = if s0 = 0 then Lq G d M_81 (56, [some (.ref 33), some (.int x1)], [], σ) else Lq G d M_81 (57, [some (.ref 33), some (.int x1)], [], σ) :=
  (aUn_eq (tkd G.1 G.2) tmi (aRun (tkd G.1 G.2) tmi tmt d) M_81 [] 1 (53, [some (.ref 33), some (.int x1)], [.int s0], σ)).trans rfl
set_option maxRecDepth 20000 in
theorem q_81_3745 (G : Nat × (Nat → Int32)) (d : Nat) (x1 : Int32) (σ : aH) : Lq G d M_81 (56, [some (.ref 33), some (.int x1)], [], σ) = some (.inl none, σ) :=
  (aUn_eq (tkd G.1 G.2) tmi (aRun (tkd G.1 G.2) tmi tmt d) M_81 [] 1 (56, [some (.ref 33), some (.int x1)], [], σ)).trans rfl
set_option maxRecDepth 20000 in
theorem q_81_3746 (G : Nat × (Nat → Int32)) (d : Nat) (x1 : Int32) (σ : aH) : Lq G d M_81 (57, [some (.ref 33), some (.int x1)], [], σ) = Lq G d M_81 (67, [some (.ref 33), some (.int x1)], [.int (1 : Int32), .int x1, .int (σ.1 33 29), .ref 48], σ) :=
  (aUn_eq (tkd G.1 G.2) tmi (aRun (tkd G.1 G.2) tmi tmt d) M_81 [] 6 (57, [some (.ref 33), some (.int x1)], [], σ)).trans rfl
set_option maxRecDepth 20000 in
theorem q_81_3747 (G : Nat × (Nat → Int32)) (d : Nat) (x1 : Int32) (s0 : Int32) (s1 : Int32) (s2 : Int32) (σ : aH) : Lq G d M_81 (67, [some (.ref 33), some (.int x1)], [.int s0, .int s1, .int s2, .ref 48], σ) = if s1 = s0 then Lq G d M_81 (70, [some (.ref 33), some (.int x1)], [.int s2, .ref 48], σ) else Lq G d M_81 (74, [some (.ref 33), some (.int x1)], [.int s2, .ref 48], σ) :=
  (aUn_eq (tkd G.1 G.2) tmi (aRun (tkd G.1 G.2) tmi tmt d) M_81 [] 1 (67, [some (.ref 33), some (.int x1)], [.int s0, .int s1, .int s2, .ref 48], σ)).trans rfl
set_option maxRecDepth 20000 in
theorem q_81_3748 (G : Nat × (Nat → Int32)) (d : Nat) (x1 : Int32) (s0 : Int32) (σ : aH) : Lq G d M_81 (70, [some (.ref 33), some (.int x1)], [.int s0, .ref 48], σ) = Lq G d M_81 (75, [some (.ref 33), some (.int x1)], [.int (1 : Int32), .int s0, .ref 48], σ) :=
  (aUn_eq (tkd G.1 G.2) tmi (aRun (tkd G.1 G.2) tmi tmt d) M_81 [] 2 (70, [some (.ref 33), some (.int x1)], [.int s0, .ref 48], σ)).trans rfl
set_option maxRecDepth 20000 in
theorem q_81_3749 (G : Nat × (Nat → Int32)) (d : Nat) (x1 : Int32) (s0 : Int32) (s1 : Int32) (σ : aH) : Lq G d M_81 (75, [some (.ref 33), some (.int x1)], [.int s0, .int s1, .ref 48], σ) = aIx (s1) 12 fun j1 => Lq G d M_81 (76, [some (.ref 33), some (.int x1)], [], (aSI σ 48 j1 (vp_nar .boolean s0))) :=
  (aUn_eq (tkd G.1 G.2) tmi (aRun (tkd G.1 G.2) tmi tmt d) M_81 [] 1 (75, [some (.ref 33), some (.int x1)], [.int s0, .int s1, .ref 48], σ)).trans rfl
set_option maxRecDepth 20000 in
theorem q_81_3750 (G : Nat × (Nat → Int32)) (d : Nat) (x1 : Int32) (σ : aH) : Lq G d M_81 (76, [some (.ref 33), some (.int x1)], [], σ) = Lq G d M_81 (86, [some (.ref 33), some (.int x1)], [], (aSI σ 33 29 ((σ.1 33 29) + (1 : Int32)))) :=
  (aUn_eq (tkd G.1 G.2) tmi (aRun (tkd G.1 G.2) tmi tmt d) M_81 [] 6 (76, [some (.ref 33), some (.int x1)], [], σ)).trans rfl
set_option maxRecDepth 20000 in
theorem q_81_3751 (G : Nat × (Nat → Int32)) (d : Nat) (x1 : Int32) (σ : aH) : Lq G d M_81 (86, [some (.ref 33), some (.int x1)], [], σ) = some (.inl none, σ) :=
  (aUn_eq (tkd G.1 G.2) tmi (aRun (tkd G.1 G.2) tmi tmt d) M_81 [] 1 (86, [some (.ref 33), some (.int x1)], [], σ)).trans rfl
set_option maxRecDepth 20000 in
theorem q_81_3752 (G : Nat × (Nat → Int32)) (d : Nat) (x1 : Int32) (s0 : Int32) (σ : aH) : Lq G d M_81 (74, [some (.ref 33), some (.int x1)], [.int s0, .ref 48], σ) = Lq G d M_81 (75, [some (.ref 33), some (.int x1)], [.int (0 : Int32), .int s0, .ref 48], σ) :=
  (aUn_eq (tkd G.1 G.2) tmi (aRun (tkd G.1 G.2) tmi tmt d) M_81 [] 1 (74, [some (.ref 33), some (.int x1)], [.int s0, .ref 48], σ)).trans rfl
set_option maxRecDepth 20000 in
theorem q_81_3753 (G : Nat × (Nat → Int32)) (d : Nat) (x1 : Int32) (σ : aH) : Lq G d M_81 (36, [some (.ref 33), some (.int x1)], [.ref 33], σ) = Lq G d M_81 (38, [some (.ref 33), some (.int x1)], [.int (1 : Int32), .int x1, .ref 33], σ) :=
  (aUn_eq (tkd G.1 G.2) tmi (aRun (tkd G.1 G.2) tmi tmt d) M_81 [] 2 (36, [some (.ref 33), some (.int x1)], [.ref 33], σ)).trans rfl
set_option maxRecDepth 20000 in
theorem q_81_3754 (G : Nat × (Nat → Int32)) (d : Nat) (x1 : Int32) (s0 : Int32) (s1 : Int32) (σ : aH) : Lq G d M_81 (38, [some (.ref 33), some (.int x1)], [.int s0, .int s1, .ref 33], σ) = if s1 = s0 then Lq G d M_81 (41, [some (.ref 33), some (.int x1)], [.ref 33], σ) else Lq G d M_81 (45, [some (.ref 33), some (.int x1)], [.ref 33], σ) :=
  (aUn_eq (tkd G.1 G.2) tmi (aRun (tkd G.1 G.2) tmi tmt d) M_81 [] 1 (38, [some (.ref 33), some (.int x1)], [.int s0, .int s1, .ref 33], σ)).trans rfl
set_option maxRecDepth 20000 in
theorem q_81_3755 (G : Nat × (Nat → Int32)) (d : Nat) (x1 : Int32) (σ : aH) : Lq G d M_81 (45, [some (.ref 33), some (.int x1)], [.ref 33], σ) = Lq G d M_81 (46, [some (.ref 33), some (.int x1)], [.int (0 : Int32), .ref 33], σ) :=
  (aUn_eq (tkd G.1 G.2) tmi (aRun (tkd G.1 G.2) tmi tmt d) M_81 [] 1 (45, [some (.ref 33), some (.int x1)], [.ref 33], σ)).trans rfl
set_option maxRecDepth 20000 in
theorem q_82_3756 (G : Nat × (Nat → Int32)) (d : Nat)  (σ : aH) : Lq G d M_82 (0, [some (.ref 33)], [], σ) = Lq G d M_82 (5, [some (.ref 33)], [.int (4 : Int32), .int (σ.1 33 30)], σ) :=
  (aUn_eq (tkd G.1 G.2) tmi (aRun (tkd G.1 G.2) tmi tmt d) M_82 [] 3 (0, [some (.ref 33)], [], σ)).trans rfl
set_option maxRecDepth 20000 in
theorem q_82_3757 (G : Nat × (Nat → Int32)) (d : Nat) (s0 : Int32) (s1 : Int32) (σ : aH) : Lq G d M_82 (5, [some (.ref 33)], [.int s0, .int s1], σ) = if s1 = s0 then Lq G d M_82 (8, [some (.ref 33)], [], σ) else Lq G d M_82 (13, [some (.ref 33)], [], σ) :=
  (aUn_eq (tkd G.1 G.2) tmi (aRun (tkd G.1 G.2) tmi tmt d) M_82 [] 1 (5, [some (.ref 33)], [.int s0, .int s1], σ)).trans rfl
set_option maxRecDepth 20000 in
theorem q_82_3758 (G : Nat × (Nat → Int32)) (d : Nat)  (σ : aH) : Lq G d M_82 (8, [some (.ref 33)], [], σ) = Lq G d M_82 (10, [some (.ref 33)], [.int (2 : Int32), .ref 33], σ) :=
  (aUn_eq (tkd G.1 G.2) tmi (aRun (tkd G.1 G.2) tmi tmt d) M_82 [] 2 (8, [some (.ref 33)], [], σ)).trans rfl
set_option maxRecDepth 20000 in
theorem q_82_3759 (G : Nat × (Nat → Int32)) (d : Nat) (s0 : Int32) (σ : aH) : Lq G d M_82 (10, [some (.ref 33)], [.int s0, .ref 33], σ) = aCV (Rn G d 73 [.ref 33, .int s0] σ) fun σ1 => Lq G d M_82 (13, [some (.ref 33)], [], σ1) :=
  (aUn_eq (tkd G.1 G.2) tmi (aRun (tkd G.1 G.2) tmi tmt d) M_82 [] 1 (10, [some (.ref 33)], [.int s0, .ref 33], σ)).trans rfl
set_option maxRecDepth 20000 in
theorem q_82_3760 (G : Nat × (Nat → Int32)) (d : Nat)  (σ : aH) : Lq G d M_82 (13, [some (.ref 33)], [], σ) = Lq G d M_82 (14, [some (.ref 33)], [.ref 33], σ) :=
  (aUn_eq (tkd G.1 G.2) tmi (aRun (tkd G.1 G.2) tmi tmt d) M_82 [] 1 (13, [some (.ref 33)], [], σ)).trans rfl
set_option maxRecDepth 20000 in
theorem q_82_3761 (G : Nat × (Nat → Int32)) (d : Nat)  (σ : aH) : Lq G d M_82 (14, [some (.ref 33)], [.ref 33], σ) = aCI (Rn G d 67 [.ref 33] σ) fun v2 σ1 => Lq G d M_82 (17, [some (.ref 33)], [.int v2], σ1) :=
  (aUn_eq (tkd G.1 G.2) tmi (aRun (tkd G.1 G.2) tmi tmt d) M_82 [] 1 (14, [some (.ref 33)], [.ref 33], σ)).trans rfl
set_option maxRecDepth 20000 in
theorem q_82_3762 (G : Nat × (Nat → Int32)) (d : Nat) (s0 : Int32) (σ : aH) : Lq G d M_82 (17, [some (.ref 33)], [.int s0], σ) = if s0 = 0 then Lq G d M_82 (20, [some (.ref 33)], [], σ) else Lq G d M_82 (21, [some (.ref 33)], [], σ) :=
  (aUn_eq (tkd G.1 G.2) tmi (aRun (tkd G.1 G.2) tmi tmt d) M_82 [] 1 (17, [some (.ref 33)], [.int s0], σ)).trans rfl
set_option maxRecDepth 20000 in
theorem q_82_3763 (G : Nat × (Nat → Int32)) (d : Nat)  (σ : aH) : Lq G d M_82 (20, [some (.ref 33)], [], σ) = some (.inl none, σ) :=
  (aUn_eq (tkd G.1 G.2) tmi (aRun (tkd G.1 G.2) tmi tmt d) M_82 [] 1 (20, [some (.ref 33)], [], σ)).trans rfl
set_option maxRecDepth 20000 in
theorem q_82_3764 (G : Nat × (Nat → Int32)) (d : Nat)  (σ : aH) : Lq G d M_82 (21, [some (.ref 33)], [], σ) = Lq G d M_82 (22, [some (.ref 33)], [.ref 33], σ) :=
  (aUn_eq (tkd G.1 G.2) tmi (aRun (tkd G.1 G.2) tmi tmt d) M_82 [] 1 (21, [some (.ref 33)], [], σ)).trans rfl
set_option maxRecDepth 20000 in
theorem q_82_3765 (G : Nat × (Nat → Int32)) (d : Nat)  (σ : aH) : Lq G d M_82 (22, [some (.ref 33)], [.ref 33], σ) = aCV (Rn G d 63 [.ref 33] σ) fun σ1 => Lq G d M_82 (25, [some (.ref 33)], [], σ1) :=
  (aUn_eq (tkd G.1 G.2) tmi (aRun (tkd G.1 G.2) tmi tmt d) M_82 [] 1 (22, [some (.ref 33)], [.ref 33], σ)).trans rfl
set_option maxRecDepth 20000 in
theorem q_82_3766 (G : Nat × (Nat → Int32)) (d : Nat)  (σ : aH) : Lq G d M_82 (25, [some (.ref 33)], [], σ) = Lq G d M_82 (34, [some (.ref 33)], [.ref 33, .int (σ.1 33 30), .ref 45], σ) :=
  (aUn_eq (tkd G.1 G.2) tmi (aRun (tkd G.1 G.2) tmi tmt d) M_82 [] 5 (25, [some (.ref 33)], [], σ)).trans rfl
set_option maxRecDepth 20000 in
theorem q_82_3767 (G : Nat × (Nat → Int32)) (d : Nat) (s1 : Int32) (σ : aH) : Lq G d M_82 (34, [some (.ref 33)], [.ref 33, .int s1, .ref 45], σ) = aCI (Rn G d 83 [.ref 33] σ) fun v2 σ1 => Lq G d M_82 (37, [some (.ref 33)], [.int v2, .int s1, .ref 45], σ1) :=
  (aUn_eq (tkd G.1 G.2) tmi (aRun (tkd G.1 G.2) tmi tmt d) M_82 [] 1 (34, [some (.ref 33)], [.ref 33, .int s1, .ref 45], σ)).trans rfl
set_option maxRecDepth 20000 in
theorem q_82_3768 (G : Nat × (Nat → Int32)) (d : Nat) (s0 : Int32) (s1 : Int32) (σ : aH) : Lq G d M_82 (37, [some (.ref 33)], [.int s0, .int s1, .ref 45], σ) = aIx (s1) 4 fun j1 => Lq G d M_82 (38, [some (.ref 33)], [], (aSI σ 45 j1 s0)) :=
  (aUn_eq (tkd G.1 G.2) tmi (aRun (tkd G.1 G.2) tmi tmt d) M_82 [] 1 (37, [some (.ref 33)], [.int s0, .int s1, .ref 45], σ)).trans rfl
set_option maxRecDepth 20000 in
theorem q_82_3769 (G : Nat × (Nat → Int32)) (d : Nat)  (σ : aH) : Lq G d M_82 (38, [some (.ref 33)], [], σ) = Lq G d M_82 (39, [some (.ref 33)], [.ref 33], σ) :=
  (aUn_eq (tkd G.1 G.2) tmi (aRun (tkd G.1 G.2) tmi tmt d) M_82 [] 1 (38, [some (.ref 33)], [], σ)).trans rfl
set_option maxRecDepth 20000 in
theorem q_82_3770 (G : Nat × (Nat → Int32)) (d : Nat)  (σ : aH) : Lq G d M_82 (39, [some (.ref 33)], [.ref 33], σ) = aCI (Rn G d 67 [.ref 33] σ) fun v2 σ1 => Lq G d M_82 (42, [some (.ref 33)], [.int v2], σ1) :=
  (aUn_eq (tkd G.1 G.2) tmi (aRun (tkd G.1 G.2) tmi tmt d) M_82 [] 1 (39, [some (.ref 33)], [.ref 33], σ)).trans rfl
set_option maxRecDepth 20000 in
theorem q_82_3771 (G : Nat × (Nat → Int32)) (d : Nat) (s0 : Int32) (σ : aH) : Lq G d M_82 (42, [some (.ref 33)], [.int s0], σ) = if s0 = 0 then Lq G d M_82 (55, [some (.ref 33)], [], σ) else Lq G d M_82 (45, [some (.ref 33)], [], σ) :=
  (aUn_eq (tkd G.1 G.2) tmi (aRun (tkd G.1 G.2) tmi tmt d) M_82 [] 1 (42, [some (.ref 33)], [.int s0], σ)).trans rfl
set_option maxRecDepth 20000 in
theorem q_82_3772 (G : Nat × (Nat → Int32)) (d : Nat)  (σ : aH) : Lq G d M_82 (55, [some (.ref 33)], [], σ) = some (.inl none, σ) :=
  (aUn_eq (tkd G.1 G.2) tmi (aRun (tkd G.1 G.2) tmi tmt d) M_82 [] 1 (55, [some (.ref 33)], [], σ)).trans rfl
set_option maxRecDepth 20000 in
theorem q_82_3773 (G : Nat × (Nat → Int32)) (d : Nat)  (σ : aH) : Lq G d M_82 (45, [some (.ref 33)], [], σ) = Lq G d M_82 (55, [some (.ref 33)], [], (aSI σ 33 30 ((σ.1 33 30) + (1 : Int32)))) :=
  (aUn_eq (tkd G.1 G.2) tmi (aRun (tkd G.1 G.2) tmi tmt d) M_82 [] 6 (45, [some (.ref 33)], [], σ)).trans rfl
set_option maxRecDepth 20000 in
theorem q_73_3774 (G : Nat × (Nat → Int32)) (d : Nat) (x1 : Int32) (σ : aH) : Lq G d M_73 (0, [some (.ref 33), some (.int x1)], [], σ) = Lq G d M_73 (4, [some (.ref 33), some (.int x1)], [.int (σ.1 33 16)], σ) :=
  (aUn_eq (tkd G.1 G.2) tmi (aRun (tkd G.1 G.2) tmi tmt d) M_73 [] 2 (0, [some (.ref 33), some (.int x1)], [], σ)).trans rfl
set_option maxRecDepth 20000 in
theorem q_73_3775 (G : Nat × (Nat → Int32)) (d : Nat) (x1 : Int32) (s0 : Int32) (σ : aH) : Lq G d M_73 (4, [some (.ref 33), some (.int x1)], [.int s0], σ) = if s0 = 0 then Lq G d M_73 (8, [some (.ref 33), some (.int x1)], [], σ) else Lq G d M_73 (7, [some (.ref 33), some (.int x1)], [], σ) :=
  (aUn_eq (tkd G.1 G.2) tmi (aRun (tkd G.1 G.2) tmi tmt d) M_73 [] 1 (4, [some (.ref 33), some (.int x1)], [.int s0], σ)).trans rfl
set_option maxRecDepth 20000 in
theorem q_73_3776 (G : Nat × (Nat → Int32)) (d : Nat) (x1 : Int32) (σ : aH) : Lq G d M_73 (8, [some (.ref 33), some (.int x1)], [], σ) = Lq G d M_73 (21, [some (.ref 33), some (.int x1)], [], (aSI (aSI σ 33 16 x1) 33 17 (σ.1 33 21))) :=
  (aUn_eq (tkd G.1 G.2) tmi (aRun (tkd G.1 G.2) tmi tmt d) M_73 [] 7 (8, [some (.ref 33), some (.int x1)], [], σ)).trans rfl
set_option maxRecDepth 20000 in
theorem q_73_3777 (G : Nat × (Nat → Int32)) (d : Nat) (x1 : Int32) (σ : aH) : Lq G d M_73 (21, [some (.ref 33), some (.int x1)], [], σ) = some (.inl none, σ) :=
  (aUn_eq (tkd G.1 G.2) tmi (aRun (tkd G.1 G.2) tmi tmt d) M_73 [] 1 (21, [some (.ref 33), some (.int x1)], [], σ)).trans rfl
set_option maxRecDepth 20000 in
theorem q_73_3778 (G : Nat × (Nat → Int32)) (d : Nat) (x1 : Int32) (σ : aH) : Lq G d M_73 (7, [some (.ref 33), some (.int x1)], [], σ) = some (.inl none, σ) :=
  (aUn_eq (tkd G.1 G.2) tmi (aRun (tkd G.1 G.2) tmi tmt d) M_73 [] 1 (7, [some (.ref 33), some (.int x1)], [], σ)).trans rfl
set_option maxRecDepth 20000 in
theorem q_48_3779 (G : Nat × (Nat → Int32)) (d : Nat) (rx1 : Nat) (σ : aH) : Lq G d M_48 (0, [some (.ref 1), some (.ref rx1)], [], σ) = Lq G d M_48 (2, [some (.ref 1), some (.ref rx1)], [.ref rx1, .ref 1], σ) :=
  (aUn_eq (tkd G.1 G.2) tmi (aRun (tkd G.1 G.2) tmi tmt d) M_48 [] 2 (0, [some (.ref 1), some (.ref rx1)], [], σ)).trans rfl
set_option maxRecDepth 20000 in
theorem q_48_3780 (G : Nat × (Nat → Int32)) (d : Nat) (rx1 : Nat) (rs0 : Nat) (σ : aH) : Lq G d M_48 (2, [some (.ref 1), some (.ref rx1)], [.ref rs0, .ref 1], σ) = aCI (Rn G d 25 [.ref 1, .ref rs0] σ) fun v2 σ1 => Lq G d M_48 (5, [some (.ref 1), some (.ref rx1)], [.int v2], σ1) :=
  (aUn_eq (tkd G.1 G.2) tmi (aRun (tkd G.1 G.2) tmi tmt d) M_48 [] 1 (2, [some (.ref 1), some (.ref rx1)], [.ref rs0, .ref 1], σ)).trans rfl
set_option maxRecDepth 20000 in
theorem q_48_3781 (G : Nat × (Nat → Int32)) (d : Nat) (rx1 : Nat) (s0 : Int32) (σ : aH) : Lq G d M_48 (5, [some (.ref 1), some (.ref rx1)], [.int s0], σ) = if s0 = 0 then Lq G d M_48 (8, [some (.ref 1), some (.ref rx1)], [], σ) else Lq G d M_48 (12, [some (.ref 1), some (.ref rx1)], [], σ) :=
  (aUn_eq (tkd G.1 G.2) tmi (aRun (tkd G.1 G.2) tmi tmt d) M_48 [] 1 (5, [some (.ref 1), some (.ref rx1)], [.int s0], σ)).trans rfl
set_option maxRecDepth 20000 in
theorem q_48_3782 (G : Nat × (Nat → Int32)) (d : Nat) (rx1 : Nat) (σ : aH) : Lq G d M_48 (8, [some (.ref 1), some (.ref rx1)], [], σ) = Lq G d M_48 (13, [some (.ref 1), some (.ref rx1)], [.int (1 : Int32)], σ) :=
  (aUn_eq (tkd G.1 G.2) tmi (aRun (tkd G.1 G.2) tmi tmt d) M_48 [] 2 (8, [some (.ref 1), some (.ref rx1)], [], σ)).trans rfl
set_option maxRecDepth 20000 in
theorem q_48_3783 (G : Nat × (Nat → Int32)) (d : Nat) (rx1 : Nat) (s0 : Int32) (σ : aH) : Lq G d M_48 (13, [some (.ref 1), some (.ref rx1)], [.int s0], σ) = aNar .boolean (s0) (some (.inl (some (.int s0)), σ)) :=
  (aUn_eq (tkd G.1 G.2) tmi (aRun (tkd G.1 G.2) tmi tmt d) M_48 [] 1 (13, [some (.ref 1), some (.ref rx1)], [.int s0], σ)).trans rfl
set_option maxRecDepth 20000 in
theorem q_48_3784 (G : Nat × (Nat → Int32)) (d : Nat) (rx1 : Nat) (σ : aH) : Lq G d M_48 (12, [some (.ref 1), some (.ref rx1)], [], σ) = Lq G d M_48 (13, [some (.ref 1), some (.ref rx1)], [.int (0 : Int32)], σ) :=
  (aUn_eq (tkd G.1 G.2) tmi (aRun (tkd G.1 G.2) tmi tmt d) M_48 [] 1 (12, [some (.ref 1), some (.ref rx1)], [], σ)).trans rfl
set_option maxRecDepth 20000 in
theorem q_97_3785 (G : Nat × (Nat → Int32)) (d : Nat) (x3 : Int32) (σ : aH) : Lq G d M_97 (0, [some (.ref 1), some (.ref 3), some (.ref 13), some (.int x3), none, none], [], σ) = Lq G d M_97 (3, [some (.ref 1), some (.ref 3), some (.ref 13), some (.int x3), none, none], [.int (0 : Int32), .ref 3, .ref 1], σ) :=
  (aUn_eq (tkd G.1 G.2) tmi (aRun (tkd G.1 G.2) tmi tmt d) M_97 [] 3 (0, [some (.ref 1), some (.ref 3), some (.ref 13), some (.int x3), none, none], [], σ)).trans rfl
set_option maxRecDepth 20000 in
theorem q_97_3786 (G : Nat × (Nat → Int32)) (d : Nat) (x3 : Int32) (s0 : Int32) (σ : aH) : Lq G d M_97 (3, [some (.ref 1), some (.ref 3), some (.ref 13), some (.int x3), none, none], [.int s0, .ref 3, .ref 1], σ) = aCI (Rn G d 98 [.ref 3, .int s0] σ) fun v2 σ1 => Lq G d M_97 (6, [some (.ref 1), some (.ref 3), some (.ref 13), some (.int x3), none, none], [.int v2, .ref 1], σ1) :=
  (aUn_eq (tkd G.1 G.2) tmi (aRun (tkd G.1 G.2) tmi tmt d) M_97 [] 1 (3, [some (.ref 1), some (.ref 3), some (.ref 13), some (.int x3), none, none], [.int s0, .ref 3, .ref 1], σ)).trans rfl
set_option maxRecDepth 20000 in
theorem q_97_3787 (G : Nat × (Nat → Int32)) (d : Nat) (x3 : Int32) (s0 : Int32) (σ : aH) : Lq G d M_97 (6, [some (.ref 1), some (.ref 3), some (.ref 13), some (.int x3), none, none], [.int s0, .ref 1], σ) = aCI (Rn G d 99 [.ref 1, .int s0] σ) fun v2 σ1 => Lq G d M_97 (9, [some (.ref 1), some (.ref 3), some (.ref 13), some (.int x3), none, none], [.int v2], σ1) :=
  (aUn_eq (tkd G.1 G.2) tmi (aRun (tkd G.1 G.2) tmi tmt d) M_97 [] 1 (6, [some (.ref 1), some (.ref 3), some (.ref 13), some (.int x3), none, none], [.int s0, .ref 1], σ)).trans rfl
set_option maxRecDepth 20000 in
theorem q_97_3788 (G : Nat × (Nat → Int32)) (d : Nat) (x3 : Int32) (s0 : Int32) (σ : aH) : Lq G d M_97 (9, [some (.ref 1), some (.ref 3), some (.ref 13), some (.int x3), none, none], [.int s0], σ) = Lq G d M_97 (14, [some (.ref 1), some (.ref 3), some (.ref 13), some (.int x3), some (.int s0), none], [.int (1 : Int32), .ref 3, .ref 1], σ) :=
  (aUn_eq (tkd G.1 G.2) tmi (aRun (tkd G.1 G.2) tmi tmt d) M_97 [] 4 (9, [some (.ref 1), some (.ref 3), some (.ref 13), some (.int x3), none, none], [.int s0], σ)).trans rfl
set_option maxRecDepth 20000 in
theorem q_97_3789 (G : Nat × (Nat → Int32)) (d : Nat) (x3 : Int32) (x4 : Int32) (s0 : Int32) (σ : aH) : Lq G d M_97 (14, [some (.ref 1), some (.ref 3), some (.ref 13), some (.int x3), some (.int x4), none], [.int s0, .ref 3, .ref 1], σ) = aCI (Rn G d 98 [.ref 3, .int s0] σ) fun v2 σ1 => Lq G d M_97 (17, [some (.ref 1), some (.ref 3), some (.ref 13), some (.int x3), some (.int x4), none], [.int v2, .ref 1], σ1) :=
  (aUn_eq (tkd G.1 G.2) tmi (aRun (tkd G.1 G.2) tmi tmt d) M_97 [] 1 (14, [some (.ref 1), some (.ref 3), some (.ref 13), some (.int x3), some (.int x4), none], [.int s0, .ref 3, .ref 1], σ)).trans rfl
set_option maxRecDepth 20000 in
theorem q_97_3790 (G : Nat × (Nat → Int32)) (d : Nat) (x3 : Int32) (x4 : Int32) (s0 : Int32) (σ : aH) : Lq G d M_97 (17, [some (.ref 1), some (.ref 3), some (.ref 13), some (.int x3), some (.int x4), none], [.int s0, .ref 1], σ) = aCI (Rn G d 99 [.ref 1, .int s0] σ) fun v2 σ1 => Lq G d M_97 (20, [some (.ref 1), some (.ref 3), some (.ref 13), some (.int x3), some (.int x4), none], [.int v2], σ1) :=
  (aUn_eq (tkd G.1 G.2) tmi (aRun (tkd G.1 G.2) tmi tmt d) M_97 [] 1 (17, [some (.ref 1), some (.ref 3), some (.ref 13), some (.int x3), some (.int x4), none], [.int s0, .ref 1], σ)).trans rfl
set_option maxRecDepth 20000 in
theorem q_97_3791 (G : Nat × (Nat → Int32)) (d : Nat) (x3 : Int32) (x4 : Int32) (s0 : Int32) (σ : aH) : Lq G d M_97 (20, [some (.ref 1), some (.ref 3), some (.ref 13), some (.int x3), some (.int x4), none], [.int s0], σ) = Lq G d M_97 (28, [some (.ref 1), some (.ref 3), some (.ref 13), some (.int x3), some (.int x4), some (.int s0)], [.int s0, .int x4, .int x3, .ref 13], σ) :=
  (aUn_eq (tkd G.1 G.2) tmi (aRun (tkd G.1 G.2) tmi tmt d) M_97 [] 5 (20, [some (.ref 1), some (.ref 3), some (.ref 13), some (.int x3), some (.int x4), none], [.int s0], σ)).trans rfl
set_option maxRecDepth 20000 in
theorem q_97_3792 (G : Nat × (Nat → Int32)) (d : Nat) (x3 : Int32) (x4 : Int32) (x5 : Int32) (s0 : Int32) (s1 : Int32) (s2 : Int32) (σ : aH) : Lq G d M_97 (28, [some (.ref 1), some (.ref 3), some (.ref 13), some (.int x3), some (.int x4), some (.int x5)], [.int s0, .int s1, .int s2, .ref 13], σ) = aCV (Rn G d 100 [.ref 13, .int s2, .int s1, .int s0] σ) fun σ1 => Lq G d M_97 (31, [some (.ref 1), some (.ref 3), some (.ref 13), some (.int x3), some (.int x4), some (.int x5)], [], σ1) :=
  (aUn_eq (tkd G.1 G.2) tmi (aRun (tkd G.1 G.2) tmi tmt d) M_97 [] 1 (28, [some (.ref 1), some (.ref 3), some (.ref 13), some (.int x3), some (.int x4), some (.int x5)], [.int s0, .int s1, .int s2, .ref 13], σ)).trans rfl
set_option maxRecDepth 20000 in
theorem q_97_3793 (G : Nat × (Nat → Int32)) (d : Nat) (x3 : Int32) (x4 : Int32) (x5 : Int32) (σ : aH) : Lq G d M_97 (31, [some (.ref 1), some (.ref 3), some (.ref 13), some (.int x3), some (.int x4), some (.int x5)], [], σ) = Lq G d M_97 (35, [some (.ref 1), some (.ref 3), some (.ref 13), some (.int x3), some (.int x4), some (.int x5)], [.int x3, .ref 13, .ref 3, .ref 1], σ) :=
  (aUn_eq (tkd G.1 G.2) tmi (aRun (tkd G.1 G.2) tmi tmt d) M_97 [] 4 (31, [some (.ref 1), some (.ref 3), some (.ref 13), some (.int x3), some (.int x4), some (.int x5)], [], σ)).trans rfl
set_option maxRecDepth 20000 in
theorem q_97_3794 (G : Nat × (Nat → Int32)) (d : Nat) (x3 : Int32) (x4 : Int32) (x5 : Int32) (s0 : Int32) (σ : aH) : Lq G d M_97 (35, [some (.ref 1), some (.ref 3), some (.ref 13), some (.int x3), some (.int x4), some (.int x5)], [.int s0, .ref 13, .ref 3, .ref 1], σ) = aCV (Rn G d 102 [.ref 1, .ref 3, .ref 13, .int s0] σ) fun σ1 => Lq G d M_97 (38, [some (.ref 1), some (.ref 3), some (.ref 13), some (.int x3), some (.int x4), some (.int x5)], [], σ1) :=
  (aUn_eq (tkd G.1 G.2) tmi (aRun (tkd G.1 G.2) tmi tmt d) M_97 [] 1 (35, [some (.ref 1), some (.ref 3), some (.ref 13), some (.int x3), some (.int x4), some (.int x5)], [.int s0, .ref 13, .ref 3, .ref 1], σ)).trans rfl
set_option maxRecDepth 20000 in
theorem q_97_3795 (G : Nat × (Nat → Int32)) (d : Nat) (x3 : Int32) (x4 : Int32) (x5 : Int32) (σ : aH) : Lq G d M_97 (38, [some (.ref 1), some (.ref 3), some (.ref 13), some (.int x3), some (.int x4), some (.int x5)], [], σ) = Lq G d M_97 (41, [some (.ref 1), some (.ref 3), some (.ref 13), some (.int x3), some (.int x4), some (.int x5)], [.ref 118, .ref 1], σ) :=
  (aUn_eq (tkd G.1 G.2) tmi (aRun (tkd G.1 G.2) tmi tmt d) M_97 [] 2 (38, [some (.ref 1), some (.ref 3), some (.ref 13), some (.int x3), some (.int x4), some (.int x5)], [], σ)).trans rfl
set_option maxRecDepth 20000 in
theorem q_97_3796 (G : Nat × (Nat → Int32)) (d : Nat) (x3 : Int32) (x4 : Int32) (x5 : Int32) (σ : aH) : Lq G d M_97 (41, [some (.ref 1), some (.ref 3), some (.ref 13), some (.int x3), some (.int x4), some (.int x5)], [.ref 118, .ref 1], σ) = aCI (Rn G d 39 [.ref 1, .ref 118] σ) fun v2 σ1 => Lq G d M_97 (44, [some (.ref 1), some (.ref 3), some (.ref 13), some (.int x3), some (.int x4), some (.int x5)], [.int v2], σ1) :=
  (aUn_eq (tkd G.1 G.2) tmi (aRun (tkd G.1 G.2) tmi tmt d) M_97 [] 1 (41, [some (.ref 1), some (.ref 3), some (.ref 13), some (.int x3), some (.int x4), some (.int x5)], [.ref 118, .ref 1], σ)).trans rfl
set_option maxRecDepth 20000 in
theorem q_97_3797 (G : Nat × (Nat → Int32)) (d : Nat) (x3 : Int32) (x4 : Int32) (x5 : Int32) (s0 : Int32) (σ : aH) : Lq G d M_97 (44, [some (.ref 1), some (.ref 3), some (.ref 13), some (.int x3), some (.int x4), some (.int x5)], [.int s0], σ) = if s0 = 0 then Lq G d M_97 (63, [some (.ref 1), some (.ref 3), some (.ref 13), some (.int x3), some (.int x4), some (.int x5)], [], σ) else Lq G d M_97 (47, [some (.ref 1), some (.ref 3), some (.ref 13), some (.int x3), some (.int x4), some (.int x5)], [], σ) :=
  (aUn_eq (tkd G.1 G.2) tmi (aRun (tkd G.1 G.2) tmi tmt d) M_97 [] 1 (44, [some (.ref 1), some (.ref 3), some (.ref 13), some (.int x3), some (.int x4), some (.int x5)], [.int s0], σ)).trans rfl
set_option maxRecDepth 20000 in
theorem q_97_3798 (G : Nat × (Nat → Int32)) (d : Nat) (x3 : Int32) (x4 : Int32) (x5 : Int32) (σ : aH) : Lq G d M_97 (63, [some (.ref 1), some (.ref 3), some (.ref 13), some (.int x3), some (.int x4), some (.int x5)], [], σ) = Lq G d M_97 (73, [some (.ref 1), some (.ref 3), some (.ref 13), some (.int x3), some (.int x4), some (.int x5)], [.int (13 : Int32), .int (0 : Int32), .ref 120, .ref 1, .int (13 : Int32), .int x3, .ref 13], σ) :=
  (aUn_eq (tkd G.1 G.2) tmi (aRun (tkd G.1 G.2) tmi tmt d) M_97 [] 7 (63, [some (.ref 1), some (.ref 3), some (.ref 13), some (.int x3), some (.int x4), some (.int x5)], [], σ)).trans rfl
set_option maxRecDepth 20000 in
theorem q_97_3799 (G : Nat × (Nat → Int32)) (d : Nat) (x3 : Int32) (x4 : Int32) (x5 : Int32) (s0 : Int32) (s1 : Int32) (s4 : Int32) (s5 : Int32) (σ : aH) : Lq G d M_97 (73, [some (.ref 1), some (.ref 3), some (.ref 13), some (.int x3), some (.int x4), some (.int x5)], [.int s0, .int s1, .ref 120, .ref 1, .int s4, .int s5, .ref 13], σ) = aCI (Rn G d 104 [.int s0] σ) fun v2 σ1 => Lq G d M_97 (76, [some (.ref 1), some (.ref 3), some (.ref 13), some (.int x3), some (.int x4), some (.int x5)], [.int v2, .int s1, .ref 120, .ref 1, .int s4, .int s5, .ref 13], σ1) :=
  (aUn_eq (tkd G.1 G.2) tmi (aRun (tkd G.1 G.2) tmi tmt d) M_97 [] 1 (73, [some (.ref 1), some (.ref 3), some (.ref 13), some (.int x3), some (.int x4), some (.int x5)], [.int s0, .int s1, .ref 120, .ref 1, .int s4, .int s5, .ref 13], σ)).trans rfl
set_option maxRecDepth 20000 in
theorem q_97_3800 (G : Nat × (Nat → Int32)) (d : Nat) (x3 : Int32) (x4 : Int32) (x5 : Int32) (s0 : Int32) (s1 : Int32) (s4 : Int32) (s5 : Int32) (σ : aH) : Lq G d M_97 (76, [some (.ref 1), some (.ref 3), some (.ref 13), some (.int x3), some (.int x4), some (.int x5)], [.int s0, .int s1, .ref 120, .ref 1, .int s4, .int s5, .ref 13], σ) = Lq G d M_97 (77, [some (.ref 1), some (.ref 3), some (.ref 13), some (.int x3), some (.int x4), some (.int x5)], [.int (0 : Int32), .int s0, .int s1, .ref 120, .ref 1, .int s4, .int s5, .ref 13], σ) :=
  (aUn_eq (tkd G.1 G.2) tmi (aRun (tkd G.1 G.2) tmi tmt d) M_97 [] 1 (76, [some (.ref 1), some (.ref 3), some (.ref 13), some (.int x3), some (.int x4), some (.int x5)], [.int s0, .int s1, .ref 120, .ref 1, .int s4, .int s5, .ref 13], σ)).trans rfl
set_option maxRecDepth 20000 in
theorem q_97_3801 (G : Nat × (Nat → Int32)) (d : Nat) (x3 : Int32) (x4 : Int32) (x5 : Int32) (s0 : Int32) (s1 : Int32) (s2 : Int32) (s5 : Int32) (s6 : Int32) (σ : aH) : Lq G d M_97 (77, [some (.ref 1), some (.ref 3), some (.ref 13), some (.int x3), some (.int x4), some (.int x5)], [.int s0, .int s1, .int s2, .ref 120, .ref 1, .int s5, .int s6, .ref 13], σ) = aCI (Rn G d 38 [.ref 1, .ref 120, .int s2, .int s1, .int s0] σ) fun v2 σ1 => Lq G d M_97 (80, [some (.ref 1), some (.ref 3), some (.ref 13), some (.int x3), some (.int x4), some (.int x5)], [.int v2, .int s5, .int s6, .ref 13], σ1) :=
  (aUn_eq (tkd G.1 G.2) tmi (aRun (tkd G.1 G.2) tmi tmt d) M_97 [] 1 (77, [some (.ref 1), some (.ref 3), some (.ref 13), some (.int x3), some (.int x4), some (.int x5)], [.int s0, .int s1, .int s2, .ref 120, .ref 1, .int s5, .int s6, .ref 13], σ)).trans rfl
set_option maxRecDepth 20000 in
theorem q_97_3802 (G : Nat × (Nat → Int32)) (d : Nat) (x3 : Int32) (x4 : Int32) (x5 : Int32) (s0 : Int32) (s1 : Int32) (s2 : Int32) (σ : aH) : Lq G d M_97 (80, [some (.ref 1), some (.ref 3), some (.ref 13), some (.int x3), some (.int x4), some (.int x5)], [.int s0, .int s1, .int s2, .ref 13], σ) = aCV (Rn G d 101 [.ref 13, .int s2, .int s1, .int s0] σ) fun σ1 => Lq G d M_97 (83, [some (.ref 1), some (.ref 3), some (.ref 13), some (.int x3), some (.int x4), some (.int x5)], [], σ1) :=
  (aUn_eq (tkd G.1 G.2) tmi (aRun (tkd G.1 G.2) tmi tmt d) M_97 [] 1 (80, [some (.ref 1), some (.ref 3), some (.ref 13), some (.int x3), some (.int x4), some (.int x5)], [.int s0, .int s1, .int s2, .ref 13], σ)).trans rfl
set_option maxRecDepth 20000 in
theorem q_97_3803 (G : Nat × (Nat → Int32)) (d : Nat) (x3 : Int32) (x4 : Int32) (x5 : Int32) (σ : aH) : Lq G d M_97 (83, [some (.ref 1), some (.ref 3), some (.ref 13), some (.int x3), some (.int x4), some (.int x5)], [], σ) = Lq G d M_97 (93, [some (.ref 1), some (.ref 3), some (.ref 13), some (.int x3), some (.int x4), some (.int x5)], [.int (14 : Int32), .int (0 : Int32), .ref 122, .ref 1, .int (14 : Int32), .int x3, .ref 13], σ) :=
  (aUn_eq (tkd G.1 G.2) tmi (aRun (tkd G.1 G.2) tmi tmt d) M_97 [] 7 (83, [some (.ref 1), some (.ref 3), some (.ref 13), some (.int x3), some (.int x4), some (.int x5)], [], σ)).trans rfl
set_option maxRecDepth 20000 in
theorem q_97_3804 (G : Nat × (Nat → Int32)) (d : Nat) (x3 : Int32) (x4 : Int32) (x5 : Int32) (s0 : Int32) (s1 : Int32) (s4 : Int32) (s5 : Int32) (σ : aH) : Lq G d M_97 (93, [some (.ref 1), some (.ref 3), some (.ref 13), some (.int x3), some (.int x4), some (.int x5)], [.int s0, .int s1, .ref 122, .ref 1, .int s4, .int s5, .ref 13], σ) = aCI (Rn G d 104 [.int s0] σ) fun v2 σ1 => Lq G d M_97 (96, [some (.ref 1), some (.ref 3), some (.ref 13), some (.int x3), some (.int x4), some (.int x5)], [.int v2, .int s1, .ref 122, .ref 1, .int s4, .int s5, .ref 13], σ1) :=
  (aUn_eq (tkd G.1 G.2) tmi (aRun (tkd G.1 G.2) tmi tmt d) M_97 [] 1 (93, [some (.ref 1), some (.ref 3), some (.ref 13), some (.int x3), some (.int x4), some (.int x5)], [.int s0, .int s1, .ref 122, .ref 1, .int s4, .int s5, .ref 13], σ)).trans rfl
set_option maxRecDepth 20000 in
theorem q_97_3805 (G : Nat × (Nat → Int32)) (d : Nat) (x3 : Int32) (x4 : Int32) (x5 : Int32) (s0 : Int32) (s1 : Int32) (s4 : Int32) (s5 : Int32) (σ : aH) : Lq G d M_97 (96, [some (.ref 1), some (.ref 3), some (.ref 13), some (.int x3), some (.int x4), some (.int x5)], [.int s0, .int s1, .ref 122, .ref 1, .int s4, .int s5, .ref 13], σ) = Lq G d M_97 (97, [some (.ref 1), some (.ref 3), some (.ref 13), some (.int x3), some (.int x4), some (.int x5)], [.int (0 : Int32), .int s0, .int s1, .ref 122, .ref 1, .int s4, .int s5, .ref 13], σ) :=
  (aUn_eq (tkd G.1 G.2) tmi (aRun (tkd G.1 G.2) tmi tmt d) M_97 [] 1 (96, [some (.ref 1), some (.ref 3), some (.ref 13), some (.int x3), some (.int x4), some (.int x5)], [.int s0, .int s1, .ref 122, .ref 1, .int s4, .int s5, .ref 13], σ)).trans rfl
set_option maxRecDepth 20000 in
theorem q_97_3806 (G : Nat × (Nat → Int32)) (d : Nat) (x3 : Int32) (x4 : Int32) (x5 : Int32) (s0 : Int32) (s1 : Int32) (s2 : Int32) (s5 : Int32) (s6 : Int32) (σ : aH) : Lq G d M_97 (97, [some (.ref 1), some (.ref 3), some (.ref 13), some (.int x3), some (.int x4), some (.int x5)], [.int s0, .int s1, .int s2, .ref 122, .ref 1, .int s5, .int s6, .ref 13], σ) = aCI (Rn G d 38 [.ref 1, .ref 122, .int s2, .int s1, .int s0] σ) fun v2 σ1 => Lq G d M_97 (100, [some (.ref 1), some (.ref 3), some (.ref 13), some (.int x3), some (.int x4), some (.int x5)], [.int v2, .int s5, .int s6, .ref 13], σ1) :=
  (aUn_eq (tkd G.1 G.2) tmi (aRun (tkd G.1 G.2) tmi tmt d) M_97 [] 1 (97, [some (.ref 1), some (.ref 3), some (.ref 13), some (.int x3), some (.int x4), some (.int x5)], [.int s0, .int s1, .int s2, .ref 122, .ref 1, .int s5, .int s6, .ref 13], σ)).trans rfl
set_option maxRecDepth 20000 in
theorem q_97_3807 (G : Nat × (Nat → Int32)) (d : Nat) (x3 : Int32) (x4 : Int32) (x5 : Int32) (s0 : Int32) (s1 : Int32) (s2 : Int32) (σ : aH) : Lq G d M_97 (100, [some (.ref 1), some (.ref 3), some (.ref 13), some (.int x3), some (.int x4), some (.int x5)], [.int s0, .int s1, .int s2, .ref 13], σ) = aCV (Rn G d 101 [.ref 13, .int s2, .int s1, .int s0] σ) fun σ1 => Lq G d M_97 (103, [some (.ref 1), some (.ref 3), some (.ref 13), some (.int x3), some (.int x4), some (.int x5)], [], σ1) :=
  (aUn_eq (tkd G.1 G.2) tmi (aRun (tkd G.1 G.2) tmi tmt d) M_97 [] 1 (100, [some (.ref 1), some (.ref 3), some (.ref 13), some (.int x3), some (.int x4), some (.int x5)], [.int s0, .int s1, .int s2, .ref 13], σ)).trans rfl
set_option maxRecDepth 20000 in
theorem q_97_3808 (G : Nat × (Nat → Int32)) (d : Nat) (x3 : Int32) (x4 : Int32) (x5 : Int32) (σ : aH) : Lq G d M_97 (103, [some (.ref 1), some (.ref 3), some (.ref 13), some (.int x3), some (.int x4), some (.int x5)], [], σ) = Lq G d M_97 (106, [some (.ref 1), some (.ref 3), some (.ref 13), some (.int x3), some (.int x4), some (.int x5)], [.ref 124, .ref 1], σ) :=
  (aUn_eq (tkd G.1 G.2) tmi (aRun (tkd G.1 G.2) tmi tmt d) M_97 [] 2 (103, [some (.ref 1), some (.ref 3), some (.ref 13), some (.int x3), some (.int x4), some (.int x5)], [], σ)).trans rfl
set_option maxRecDepth 20000 in
theorem q_97_3809 (G : Nat × (Nat → Int32)) (d : Nat) (x3 : Int32) (x4 : Int32) (x5 : Int32) (σ : aH) : Lq G d M_97 (106, [some (.ref 1), some (.ref 3), some (.ref 13), some (.int x3), some (.int x4), some (.int x5)], [.ref 124, .ref 1], σ) = aCI (Rn G d 39 [.ref 1, .ref 124] σ) fun v2 σ1 => Lq G d M_97 (109, [some (.ref 1), some (.ref 3), some (.ref 13), some (.int x3), some (.int x4), some (.int x5)], [.int v2], σ1) :=
  (aUn_eq (tkd G.1 G.2) tmi (aRun (tkd G.1 G.2) tmi tmt d) M_97 [] 1 (106, [some (.ref 1), some (.ref 3), some (.ref 13), some (.int x3), some (.int x4), some (.int x5)], [.ref 124, .ref 1], σ)).trans rfl
set_option maxRecDepth 20000 in
theorem q_97_3810 (G : Nat × (Nat → Int32)) (d : Nat) (x3 : Int32) (x4 : Int32) (x5 : Int32) (s0 : Int32) (σ : aH) : Lq G d M_97 (109, [some (.ref 1), some (.ref 3), some (.ref 13), some (.int x3), some (.int x4), some (.int x5)], [.int s0], σ) = if s0 = 0 then Lq G d M_97 (128, [some (.ref 1), some (.ref 3), some (.ref 13), some (.int x3), some (.int x4), some (.int x5)], [], σ) else Lq G d M_97 (112, [some (.ref 1), some (.ref 3), some (.ref 13), some (.int x3), some (.int x4), some (.int x5)], [], σ) :=
  (aUn_eq (tkd G.1 G.2) tmi (aRun (tkd G.1 G.2) tmi tmt d) M_97 [] 1 (109, [some (.ref 1), some (.ref 3), some (.ref 13), some (.int x3), some (.int x4), some (.int x5)], [.int s0], σ)).trans rfl
set_option maxRecDepth 20000 in
theorem q_97_3811 (G : Nat × (Nat → Int32)) (d : Nat) (x3 : Int32) (x4 : Int32) (x5 : Int32) (σ : aH) : Lq G d M_97 (128, [some (.ref 1), some (.ref 3), some (.ref 13), some (.int x3), some (.int x4), some (.int x5)], [], σ) = Lq G d M_97 (129, [some (.ref 1), some (.ref 3), some (.ref 13), some (.int x3), some (.int x4), some (.int x5)], [.ref 1], σ) :=
  (aUn_eq (tkd G.1 G.2) tmi (aRun (tkd G.1 G.2) tmi tmt d) M_97 [] 1 (128, [some (.ref 1), some (.ref 3), some (.ref 13), some (.int x3), some (.int x4), some (.int x5)], [], σ)).trans rfl
set_option maxRecDepth 20000 in
theorem q_97_3812 (G : Nat × (Nat → Int32)) (d : Nat) (x3 : Int32) (x4 : Int32) (x5 : Int32) (σ : aH) : Lq G d M_97 (129, [some (.ref 1), some (.ref 3), some (.ref 13), some (.int x3), some (.int x4), some (.int x5)], [.ref 1], σ) = aCV (Rn G d 55 [.ref 1] σ) fun σ1 => Lq G d M_97 (132, [some (.ref 1), some (.ref 3), some (.ref 13), some (.int x3), some (.int x4), some (.int x5)], [], σ1) :=
  (aUn_eq (tkd G.1 G.2) tmi (aRun (tkd G.1 G.2) tmi tmt d) M_97 [] 1 (129, [some (.ref 1), some (.ref 3), some (.ref 13), some (.int x3), some (.int x4), some (.int x5)], [.ref 1], σ)).trans rfl
set_option maxRecDepth 20000 in
theorem q_97_3813 (G : Nat × (Nat → Int32)) (d : Nat) (x3 : Int32) (x4 : Int32) (x5 : Int32) (σ : aH) : Lq G d M_97 (132, [some (.ref 1), some (.ref 3), some (.ref 13), some (.int x3), some (.int x4), some (.int x5)], [], σ) = some (.inl none, σ) :=
  (aUn_eq (tkd G.1 G.2) tmi (aRun (tkd G.1 G.2) tmi tmt d) M_97 [] 1 (132, [some (.ref 1), some (.ref 3), some (.ref 13), some (.int x3), some (.int x4), some (.int x5)], [], σ)).trans rfl
set_option maxRecDepth 20000 in
theorem q_97_3814 (G : Nat × (Nat → Int32)) (d : Nat) (x3 : Int32) (x4 : Int32) (x5 : Int32) (σ : aH) : Lq G d M_97 (112, [some (.ref 1), some (.ref 3), some (.ref 13), some (.int x3), some (.int x4), some (.int x5)], [], σ) = Lq G d M_97 (119, [some (.ref 1), some (.ref 3), some (.ref 13), some (.int x3), some (.int x4), some (.int x5)], [.int (15 : Int32), .ref 1, .int (15 : Int32), .int x3, .ref 13], σ) :=
  (aUn_eq (tkd G.1 G.2) tmi (aRun (tkd G.1 G.2) tmi tmt d) M_97 [] 5 (112, [some (.ref 1), some (.ref 3), some (.ref 13), some (.int x3), some (.int x4), some (.int x5)], [], σ)).trans rfl
set_option maxRecDepth 20000 in
theorem q_97_3815 (G : Nat × (Nat → Int32)) (d : Nat) (x3 : Int32) (x4 : Int32) (x5 : Int32) (s0 : Int32) (s2 : Int32) (s3 : Int32) (σ : aH) : Lq G d M_97 (119, [some (.ref 1), some (.ref 3), some (.ref 13), some (.int x3), some (.int x4), some (.int x5)], [.int s0, .ref 1, .int s2, .int s3, .ref 13], σ) = aCI (Rn G d 104 [.int s0] σ) fun v2 σ1 => Lq G d M_97 (122, [some (.ref 1), some (.ref 3), some (.ref 13), some (.int x3), some (.int x4), some (.int x5)], [.int v2, .ref 1, .int s2, .int s3, .ref 13], σ1) :=
  (aUn_eq (tkd G.1 G.2) tmi (aRun (tkd G.1 G.2) tmi tmt d) M_97 [] 1 (119, [some (.ref 1), some (.ref 3), some (.ref 13), some (.int x3), some (.int x4), some (.int x5)], [.int s0, .ref 1, .int s2, .int s3, .ref 13], σ)).trans rfl
set_option maxRecDepth 20000 in
theorem q_97_3816 (G : Nat × (Nat → Int32)) (d : Nat) (x3 : Int32) (x4 : Int32) (x5 : Int32) (s0 : Int32) (s2 : Int32) (s3 : Int32) (σ : aH) : Lq G d M_97 (122, [some (.ref 1), some (.ref 3), some (.ref 13), some (.int x3), some (.int x4), some (.int x5)], [.int s0, .ref 1, .int s2, .int s3, .ref 13], σ) = aCI (Rn G d 105 [.ref 1, .int s0] σ) fun v2 σ1 => Lq G d M_97 (125, [some (.ref 1), some (.ref 3), some (.ref 13), some (.int x3), some (.int x4), some (.int x5)], [.int v2, .int s2, .int s3, .ref 13], σ1) :=
  (aUn_eq (tkd G.1 G.2) tmi (aRun (tkd G.1 G.2) tmi tmt d) M_97 [] 1 (122, [some (.ref 1), some (.ref 3), some (.ref 13), some (.int x3), some (.int x4), some (.int x5)], [.int s0, .ref 1, .int s2, .int s3, .ref 13], σ)).trans rfl
set_option maxRecDepth 20000 in
theorem q_97_3817 (G : Nat × (Nat → Int32)) (d : Nat) (x3 : Int32) (x4 : Int32) (x5 : Int32) (s0 : Int32) (s1 : Int32) (s2 : Int32) (σ : aH) : Lq G d M_97 (125, [some (.ref 1), some (.ref 3), some (.ref 13), some (.int x3), some (.int x4), some (.int x5)], [.int s0, .int s1, .int s2, .ref 13], σ) = aCV (Rn G d 101 [.ref 13, .int s2, .int s1, .int s0] σ) fun σ1 => Lq G d M_97 (128, [some (.ref 1), some (.ref 3), some (.ref 13), some (.int x3), some (.int x4), some (.int x5)], [], σ1) :=
  (aUn_eq (tkd G.1 G.2) tmi (aRun (tkd G.1 G.2) tmi tmt d) M_97 [] 1 (125, [some (.ref 1), some (.ref 3), some (.ref 13), some (.int x3), some (.int x4), some (.int x5)], [.int s0, .int s1, .int s2, .ref 13], σ)).trans rfl
set_option maxRecDepth 20000 in
theorem q_97_3818 (G : Nat × (Nat → Int32)) (d : Nat) (x3 : Int32) (x4 : Int32) (x5 : Int32) (σ : aH) : Lq G d M_97 (47, [some (.ref 1), some (.ref 3), some (.ref 13), some (.int x3), some (.int x4), some (.int x5)], [], σ) = Lq G d M_97 (54, [some (.ref 1), some (.ref 3), some (.ref 13), some (.int x3), some (.int x4), some (.int x5)], [.int (12 : Int32), .ref 1, .int (12 : Int32), .int x3, .ref 13], σ) :=
  (aUn_eq (tkd G.1 G.2) tmi (aRun (tkd G.1 G.2) tmi tmt d) M_97 [] 5 (47, [some (.ref 1), some (.ref 3), some (.ref 13), some (.int x3), some (.int x4), some (.int x5)], [], σ)).trans rfl
set_option maxRecDepth 20000 in
theorem q_97_3819 (G : Nat × (Nat → Int32)) (d : Nat) (x3 : Int32) (x4 : Int32) (x5 : Int32) (s0 : Int32) (s2 : Int32) (s3 : Int32) (σ : aH) : Lq G d M_97 (54, [some (.ref 1), some (.ref 3), some (.ref 13), some (.int x3), some (.int x4), some (.int x5)], [.int s0, .ref 1, .int s2, .int s3, .ref 13], σ) = aCI (Rn G d 104 [.int s0] σ) fun v2 σ1 => Lq G d M_97 (57, [some (.ref 1), some (.ref 3), some (.ref 13), some (.int x3), some (.int x4), some (.int x5)], [.int v2, .ref 1, .int s2, .int s3, .ref 13], σ1) :=
  (aUn_eq (tkd G.1 G.2) tmi (aRun (tkd G.1 G.2) tmi tmt d) M_97 [] 1 (54, [some (.ref 1), some (.ref 3), some (.ref 13), some (.int x3), some (.int x4), some (.int x5)], [.int s0, .ref 1, .int s2, .int s3, .ref 13], σ)).trans rfl
set_option maxRecDepth 20000 in
theorem q_97_3820 (G : Nat × (Nat → Int32)) (d : Nat) (x3 : Int32) (x4 : Int32) (x5 : Int32) (s0 : Int32) (s2 : Int32) (s3 : Int32) (σ : aH) : Lq G d M_97 (57, [some (.ref 1), some (.ref 3), some (.ref 13), some (.int x3), some (.int x4), some (.int x5)], [.int s0, .ref 1, .int s2, .int s3, .ref 13], σ) = aCI (Rn G d 105 [.ref 1, .int s0] σ) fun v2 σ1 => Lq G d M_97 (60, [some (.ref 1), some (.ref 3), some (.ref 13), some (.int x3), some (.int x4), some (.int x5)], [.int v2, .int s2, .int s3, .ref 13], σ1) :=
  (aUn_eq (tkd G.1 G.2) tmi (aRun (tkd G.1 G.2) tmi tmt d) M_97 [] 1 (57, [some (.ref 1), some (.ref 3), some (.ref 13), some (.int x3), some (.int x4), some (.int x5)], [.int s0, .ref 1, .int s2, .int s3, .ref 13], σ)).trans rfl
set_option maxRecDepth 20000 in
theorem q_97_3821 (G : Nat × (Nat → Int32)) (d : Nat) (x3 : Int32) (x4 : Int32) (x5 : Int32) (s0 : Int32) (s1 : Int32) (s2 : Int32) (σ : aH) : Lq G d M_97 (60, [some (.ref 1), some (.ref 3), some (.ref 13), some (.int x3), some (.int x4), some (.int x5)], [.int s0, .int s1, .int s2, .ref 13], σ) = aCV (Rn G d 101 [.ref 13, .int s2, .int s1, .int s0] σ) fun σ1 => Lq G d M_97 (63, [some (.ref 1), some (.ref 3), some (.ref 13), some (.int x3), some (.int x4), some (.int x5)], [], σ1) :=
  (aUn_eq (tkd G.1 G.2) tmi (aRun (tkd G.1 G.2) tmi tmt d) M_97 [] 1 (60, [some (.ref 1), some (.ref 3), some (.ref 13), some (.int x3), some (.int x4), some (.int x5)], [.int s0, .int s1, .int s2, .ref 13], σ)).trans rfl
set_option maxRecDepth 20000 in
theorem q_108_3822 (G : Nat × (Nat → Int32)) (d : Nat) (x1 : Int32) (σ : aH) : Lq G d M_108 (0, [some (.ref 33), some (.int x1), none], [], σ) = Lq G d M_108 (1, [some (.ref 33), some (.int x1), none], [.ref 33], σ) :=
  (aUn_eq (tkd G.1 G.2) tmi (aRun (tkd G.1 G.2) tmi tmt d) M_108 [] 1 (0, [some (.ref 33), some (.int x1), none], [], σ)).trans rfl
set_option maxRecDepth 20000 in
theorem q_108_3823 (G : Nat × (Nat → Int32)) (d : Nat) (x1 : Int32) (σ : aH) : Lq G d M_108 (1, [some (.ref 33), some (.int x1), none], [.ref 33], σ) = aCI (Rn G d 67 [.ref 33] σ) fun v2 σ1 => Lq G d M_108 (4, [some (.ref 33), some (.int x1), none], [.int v2], σ1) :=
  (aUn_eq (tkd G.1 G.2) tmi (aRun (tkd G.1 G.2) tmi tmt d) M_108 [] 1 (1, [some (.ref 33), some (.int x1), none], [.ref 33], σ)).trans rfl
set_option maxRecDepth 20000 in
theorem q_108_3824 (G : Nat × (Nat → Int32)) (d : Nat) (x1 : Int32) (s0 : Int32) (σ : aH) : Lq G d M_108 (4, [some (.ref 33), some (.int x1), none], [.int s0], σ) = if s0 = 0 then Lq G d M_108 (7, [some (.ref 33), some (.int x1), none], [], σ) else Lq G d M_108 (9, [some (.ref 33), some (.int x1), none], [], σ) :=
  (aUn_eq (tkd G.1 G.2) tmi (aRun (tkd G.1 G.2) tmi tmt d) M_108 [] 1 (4, [some (.ref 33), some (.int x1), none], [.int s0], σ)).trans rfl
set_option maxRecDepth 20000 in
theorem q_108_3825 (G : Nat × (Nat → Int32)) (d : Nat) (x1 : Int32) (σ : aH) : Lq G d M_108 (7, [some (.ref 33), some (.int x1), none], [], σ) = Lq G d M_108 (8, [some (.ref 33), some (.int x1), none], [.int (0 : Int32)], σ) :=
  (aUn_eq (tkd G.1 G.2) tmi (aRun (tkd G.1 G.2) tmi tmt d) M_108 [] 1 (7, [some (.ref 33), some (.int x1), none], [], σ)).trans rfl
set_option maxRecDepth 20000 in
theorem q_108_3826 (G : Nat × (Nat → Int32)) (d : Nat) (x1 : Int32) (s0 : Int32) (σ : aH) : Lq G d M_108 (8, [some (.ref 33), some (.int x1), none], [.int s0], σ) = some (.inl (some (.int s0)), σ) :=
  (aUn_eq (tkd G.1 G.2) tmi (aRun (tkd G.1 G.2) tmi tmt d) M_108 [] 1 (8, [some (.ref 33), some (.int x1), none], [.int s0], σ)).trans rfl
set_option maxRecDepth 20000 in
theorem q_108_3827 (G : Nat × (Nat → Int32)) (d : Nat) (x1 : Int32) (σ : aH) : Lq G d M_108 (9, [some (.ref 33), some (.int x1), none], [], σ) = Lq G d M_108 (14, [some (.ref 33), some (.int x1), none], [.int (2 : Int32), .int (σ.1 33 20)], σ) :=
  (aUn_eq (tkd G.1 G.2) tmi (aRun (tkd G.1 G.2) tmi tmt d) M_108 [] 3 (9, [some (.ref 33), some (.int x1), none], [], σ)).trans rfl
set_option maxRecDepth 20000 in
theorem q_108_3828 (G : Nat × (Nat → Int32)) (d : Nat) (x1 : Int32) (s0 : Int32) (s1 : Int32) (σ : aH) : Lq G d M_108 (14, [some (.ref 33), some (.int x1), none], [.int s0, .int s1], σ) = if s1 = s0 then Lq G d M_108 (25, [some (.ref 33), some (.int x1), none], [], σ) else Lq G d M_108 (17, [some (.ref 33), some (.int x1), none], [], σ) :=
  (aUn_eq (tkd G.1 G.2) tmi (aRun (tkd G.1 G.2) tmi tmt d) M_108 [] 1 (14, [some (.ref 33), some (.int x1), none], [.int s0, .int s1], σ)).trans rfl
set_option maxRecDepth 20000 in
theorem q_108_3829 (G : Nat × (Nat → Int32)) (d : Nat) (x1 : Int32) (σ : aH) : Lq G d M_108 (25, [some (.ref 33), some (.int x1), none], [], σ) = Lq G d M_108 (30, [some (.ref 33), some (.int x1), none], [.int (4 : Int32), .int (σ.1 33 22)], σ) :=
  (aUn_eq (tkd G.1 G.2) tmi (aRun (tkd G.1 G.2) tmi tmt d) M_108 [] 3 (25, [some (.ref 33), some (.int x1), none], [], σ)).trans rfl
set_option maxRecDepth 20000 in
theorem q_108_3830 (G : Nat × (Nat → Int32)) (d : Nat) (x1 : Int32) (s0 : Int32) (s1 : Int32) (σ : aH) : Lq G d M_108 (30, [some (.ref 33), some (.int x1), none], [.int s0, .int s1], σ) = if s1 ≤ s0 then Lq G d M_108 (41, [some (.ref 33), some (.int x1), none], [], σ) else Lq G d M_108 (33, [some (.ref 33), some (.int x1), none], [], σ) :=
  (aUn_eq (tkd G.1 G.2) tmi (aRun (tkd G.1 G.2) tmi tmt d) M_108 [] 1 (30, [some (.ref 33), some (.int x1), none], [.int s0, .int s1], σ)).trans rfl
set_option maxRecDepth 20000 in
theorem q_108_3831 (G : Nat × (Nat → Int32)) (d : Nat) (x1 : Int32) (σ : aH) : Lq G d M_108 (41, [some (.ref 33), some (.int x1), none], [], σ) = Lq G d M_108 (46, [some (.ref 33), some (.int x1), none], [.int x1, .int (σ.1 33 23)], σ) :=
  (aUn_eq (tkd G.1 G.2) tmi (aRun (tkd G.1 G.2) tmi tmt d) M_108 [] 3 (41, [some (.ref 33), some (.int x1), none], [], σ)).trans rfl
set_option maxRecDepth 20000 in
theorem q_108_3832 (G : Nat × (Nat → Int32)) (d : Nat) (x1 : Int32) (s0 : Int32) (s1 : Int32) (σ : aH) : Lq G d M_108 (46, [some (.ref 33), some (.int x1), none], [.int s0, .int s1], σ) = if s1 < s0 then Lq G d M_108 (54, [some (.ref 33), some (.int x1), none], [], σ) else Lq G d M_108 (49, [some (.ref 33), some (.int x1), none], [], σ) :=
  (aUn_eq (tkd G.1 G.2) tmi (aRun (tkd G.1 G.2) tmi tmt d) M_108 [] 1 (46, [some (.ref 33), some (.int x1), none], [.int s0, .int s1], σ)).trans rfl
set_option maxRecDepth 20000 in
theorem q_108_3833 (G : Nat × (Nat → Int32)) (d : Nat) (x1 : Int32) (σ : aH) : Lq G d M_108 (54, [some (.ref 33), some (.int x1), none], [], σ) = Lq G d M_108 (60, [some (.ref 33), some (.int x1), some (.int (σ.1 33 23))], [.ref 33], σ) :=
  (aUn_eq (tkd G.1 G.2) tmi (aRun (tkd G.1 G.2) tmi tmt d) M_108 [] 4 (54, [some (.ref 33), some (.int x1), none], [], σ)).trans rfl
set_option maxRecDepth 20000 in
theorem q_108_3834 (G : Nat × (Nat → Int32)) (d : Nat) (x1 : Int32) (x2 : Int32) (σ : aH) : Lq G d M_108 (60, [some (.ref 33), some (.int x1), some (.int x2)], [.ref 33], σ) = aCI (Rn G d 67 [.ref 33] σ) fun v2 σ1 => Lq G d M_108 (63, [some (.ref 33), some (.int x1), some (.int x2)], [.int v2], σ1) :=
  (aUn_eq (tkd G.1 G.2) tmi (aRun (tkd G.1 G.2) tmi tmt d) M_108 [] 1 (60, [some (.ref 33), some (.int x1), some (.int x2)], [.ref 33], σ)).trans rfl
set_option maxRecDepth 20000 in
theorem q_108_3835 (G : Nat × (Nat → Int32)) (d : Nat) (x1 : Int32) (x2 : Int32) (s0 : Int32) (σ : aH) : Lq G d M_108 (63, [some (.ref 33), some (.int x1), some (.int x2)], [.int s0], σ) = if s0 = 0 then Lq G d M_108 (70, [some (.ref 33), some (.int x1), some (.int x2)], [], σ) else Lq G d M_108 (66, [some (.ref 33), some (.int x1), some (.int x2)], [], σ) :=
  (aUn_eq (tkd G.1 G.2) tmi (aRun (tkd G.1 G.2) tmi tmt d) M_108 [] 1 (63, [some (.ref 33), some (.int x1), some (.int x2)], [.int s0], σ)).trans rfl
set_option maxRecDepth 20000 in
theorem q_108_3836 (G : Nat × (Nat → Int32)) (d : Nat) (x1 : Int32) (x2 : Int32) (σ : aH) : Lq G d M_108 (70, [some (.ref 33), some (.int x1), some (.int x2)], [], σ) = Lq G d M_108 (71, [some (.ref 33), some (.int x1), some (.int x2)], [.int x2], σ) :=
  (aUn_eq (tkd G.1 G.2) tmi (aRun (tkd G.1 G.2) tmi tmt d) M_108 [] 1 (70, [some (.ref 33), some (.int x1), some (.int x2)], [], σ)).trans rfl
set_option maxRecDepth 20000 in
theorem q_108_3837 (G : Nat × (Nat → Int32)) (d : Nat) (x1 : Int32) (x2 : Int32) (s0 : Int32) (σ : aH) : Lq G d M_108 (71, [some (.ref 33), some (.int x1), some (.int x2)], [.int s0], σ) = some (.inl (some (.int s0)), σ) :=
  (aUn_eq (tkd G.1 G.2) tmi (aRun (tkd G.1 G.2) tmi tmt d) M_108 [] 1 (71, [some (.ref 33), some (.int x1), some (.int x2)], [.int s0], σ)).trans rfl
set_option maxRecDepth 20000 in
theorem q_108_3838 (G : Nat × (Nat → Int32)) (d : Nat) (x1 : Int32) (x2 : Int32) (σ : aH) : Lq G d M_108 (66, [some (.ref 33), some (.int x1), some (.int x2)], [], σ) = Lq G d M_108 (67, [some (.ref 33), some (.int x1), some (.int x2)], [.ref 33], σ) :=
  (aUn_eq (tkd G.1 G.2) tmi (aRun (tkd G.1 G.2) tmi tmt d) M_108 [] 1 (66, [some (.ref 33), some (.int x1), some (.int x2)], [], σ)).trans rfl
set_option maxRecDepth 20000 in
theorem q_108_3839 (G : Nat × (Nat → Int32)) (d : Nat) (x1 : Int32) (x2 : Int32) (σ : aH) : Lq G d M_108 (67, [some (.ref 33), some (.int x1), some (.int x2)], [.ref 33], σ) = aCV (Rn G d 63 [.ref 33] σ) fun σ1 => Lq G d M_108 (70, [some (.ref 33), some (.int x1), some (.int x2)], [], σ1) :=
  (aUn_eq (tkd G.1 G.2) tmi (aRun (tkd G.1 G.2) tmi tmt d) M_108 [] 1 (67, [some (.ref 33), some (.int x1), some (.int x2)], [.ref 33], σ)).trans rfl
set_option maxRecDepth 20000 in
theorem q_108_3840 (G : Nat × (Nat → Int32)) (d : Nat) (x1 : Int32) (σ : aH) : Lq G d M_108 (49, [some (.ref 33), some (.int x1), none], [], σ) = Lq G d M_108 (51, [some (.ref 33), some (.int x1), none], [.int (4 : Int32), .ref 33], σ) :=
  (aUn_eq (tkd G.1 G.2) tmi (aRun (tkd G.1 G.2) tmi tmt d) M_108 [] 2 (49, [some (.ref 33), some (.int x1), none], [], σ)).trans rfl
set_option maxRecDepth 20000 in
theorem q_108_3841 (G : Nat × (Nat → Int32)) (d : Nat) (x1 : Int32) (s0 : Int32) (σ : aH) : Lq G d M_108 (51, [some (.ref 33), some (.int x1), none], [.int s0, .ref 33], σ) = aCV (Rn G d 73 [.ref 33, .int s0] σ) fun σ1 => Lq G d M_108 (54, [some (.ref 33), some (.int x1), none], [], σ1) :=
  (aUn_eq (tkd G.1 G.2) tmi (aRun (tkd G.1 G.2) tmi tmt d) M_108 [] 1 (51, [some (.ref 33), some (.int x1), none], [.int s0, .ref 33], σ)).trans rfl
