/-! ===== the methods in pieces, as equations (by wip/gen/emit_eqs2.py) ===== -/
set_option maxRecDepth 20000
theorem q_13_5736 (G : Nat × (Nat → Int32)) (d : Nat) (x1 : Int32) (x2 : Int32) (σ : aH) : Lq G d M_13 (7, [some (.ref 126), some (.int x1), some (.int x2)], [], σ) = Lq G d M_13 (14, [some (.ref 126), some (.int x1), some (.int x2)], [.ref 126, .int x2, .int x1, .ref 127], σ) :=
  (aUn_eq (tkd G.1 G.2) tmi (aRun (tkd G.1 G.2) tmi tmt d) M_13 [] 5 (7, [some (.ref 126), some (.int x1), some (.int x2)], [], σ)).trans rfl
theorem q_13_5737 (G : Nat × (Nat → Int32)) (d : Nat) (x1 : Int32) (x2 : Int32) (s1 : Int32) (s2 : Int32) (σ : aH) : Lq G d M_13 (14, [some (.ref 126), some (.int x1), some (.int x2)], [.ref 126, .int s1, .int s2, .ref 127], σ) = aCI (Rn G d 15 [.ref 126] σ) fun v2 σ1 => Lq G d M_13 (17, [some (.ref 126), some (.int x1), some (.int x2)], [.int v2, .int s1, .int s2, .ref 127], σ1) :=
  (aUn_eq (tkd G.1 G.2) tmi (aRun (tkd G.1 G.2) tmi tmt d) M_13 [] 1 (14, [some (.ref 126), some (.int x1), some (.int x2)], [.ref 126, .int s1, .int s2, .ref 127], σ)).trans rfl
theorem q_13_5738 (G : Nat × (Nat → Int32)) (d : Nat) (x1 : Int32) (x2 : Int32) (s0 : Int32) (s1 : Int32) (s2 : Int32) (σ : aH) : Lq G d M_13 (17, [some (.ref 126), some (.int x1), some (.int x2)], [.int s0, .int s1, .int s2, .ref 127], σ) = aCI (Rn G d 17 [.ref 127, .int s2, .int s1, .int s0] σ) fun v2 σ1 => Lq G d M_13 (20, [some (.ref 126), some (.int x1), some (.int x2)], [.int v2], σ1) :=
  (aUn_eq (tkd G.1 G.2) tmi (aRun (tkd G.1 G.2) tmi tmt d) M_13 [] 1 (17, [some (.ref 126), some (.int x1), some (.int x2)], [.int s0, .int s1, .int s2, .ref 127], σ)).trans rfl
theorem q_13_5739 (G : Nat × (Nat → Int32)) (d : Nat) (x1 : Int32) (x2 : Int32) (s0 : Int32) (σ : aH) : Lq G d M_13 (20, [some (.ref 126), some (.int x1), some (.int x2)], [.int s0], σ) = Lq G d M_13 (36, [some (.ref 126), some (.int x1), some (.int x2)], [.int s0], σ) :=
  (aUn_eq (tkd G.1 G.2) tmi (aRun (tkd G.1 G.2) tmi tmt d) M_13 [] 1 (20, [some (.ref 126), some (.int x1), some (.int x2)], [.int s0], σ)).trans rfl
theorem q_13_5740 (G : Nat × (Nat → Int32)) (d : Nat) (x1 : Int32) (x2 : Int32) (s0 : Int32) (σ : aH) : Lq G d M_13 (36, [some (.ref 126), some (.int x1), some (.int x2)], [.int s0], σ) = some (.inl (some (.int s0)), σ) :=
  (aUn_eq (tkd G.1 G.2) tmi (aRun (tkd G.1 G.2) tmi tmt d) M_13 [] 1 (36, [some (.ref 126), some (.int x1), some (.int x2)], [.int s0], σ)).trans rfl
theorem q_13_5741 (G : Nat × (Nat → Int32)) (d : Nat) (x1 : Int32) (x2 : Int32) (σ : aH) : Lq G d M_13 (0, [some (.ref 128), some (.int x1), some (.int x2)], [], σ) = Lq G d M_13 (1, [some (.ref 128), some (.int x1), some (.int x2)], [.ref 128], σ) :=
  (aUn_eq (tkd G.1 G.2) tmi (aRun (tkd G.1 G.2) tmi tmt d) M_13 [] 1 (0, [some (.ref 128), some (.int x1), some (.int x2)], [], σ)).trans rfl
theorem q_13_5742 (G : Nat × (Nat → Int32)) (d : Nat) (x1 : Int32) (x2 : Int32) (σ : aH) : Lq G d M_13 (1, [some (.ref 128), some (.int x1), some (.int x2)], [.ref 128], σ) = aCI (Rn G d 14 [.ref 128] σ) fun v2 σ1 => Lq G d M_13 (4, [some (.ref 128), some (.int x1), some (.int x2)], [.int v2], σ1) :=
  (aUn_eq (tkd G.1 G.2) tmi (aRun (tkd G.1 G.2) tmi tmt d) M_13 [] 1 (1, [some (.ref 128), some (.int x1), some (.int x2)], [.ref 128], σ)).trans rfl
theorem q_13_5743 (G : Nat × (Nat → Int32)) (d : Nat) (x1 : Int32) (x2 : Int32) (s0 : Int32) (σ : aH) : Lq G d M_13 (4, [some (.ref 128), some (.int x1), some (.int x2)], [.int s0], σ) = if s0 = 0 then Lq G d M_13 (23, [some (.ref 128), some (.int x1), some (.int x2)], [], σ) else Lq G d M_13 (7, [some (.ref 128), some (.int x1), some (.int x2)], [], σ) :=
  (aUn_eq (tkd G.1 G.2) tmi (aRun (tkd G.1 G.2) tmi tmt d) M_13 [] 1 (4, [some (.ref 128), some (.int x1), some (.int x2)], [.int s0], σ)).trans rfl
theorem q_13_5744 (G : Nat × (Nat → Int32)) (d : Nat) (x1 : Int32) (x2 : Int32) (σ : aH) : Lq G d M_13 (23, [some (.ref 128), some (.int x1), some (.int x2)], [], σ) = Lq G d M_13 (30, [some (.ref 128), some (.int x1), some (.int x2)], [.ref 128, .int x2, .int x1, .ref 129], σ) :=
  (aUn_eq (tkd G.1 G.2) tmi (aRun (tkd G.1 G.2) tmi tmt d) M_13 [] 5 (23, [some (.ref 128), some (.int x1), some (.int x2)], [], σ)).trans rfl
theorem q_13_5745 (G : Nat × (Nat → Int32)) (d : Nat) (x1 : Int32) (x2 : Int32) (s1 : Int32) (s2 : Int32) (σ : aH) : Lq G d M_13 (30, [some (.ref 128), some (.int x1), some (.int x2)], [.ref 128, .int s1, .int s2, .ref 129], σ) = aCI (Rn G d 15 [.ref 128] σ) fun v2 σ1 => Lq G d M_13 (33, [some (.ref 128), some (.int x1), some (.int x2)], [.int v2, .int s1, .int s2, .ref 129], σ1) :=
  (aUn_eq (tkd G.1 G.2) tmi (aRun (tkd G.1 G.2) tmi tmt d) M_13 [] 1 (30, [some (.ref 128), some (.int x1), some (.int x2)], [.ref 128, .int s1, .int s2, .ref 129], σ)).trans rfl
theorem q_13_5746 (G : Nat × (Nat → Int32)) (d : Nat) (x1 : Int32) (x2 : Int32) (s0 : Int32) (s1 : Int32) (s2 : Int32) (σ : aH) : Lq G d M_13 (33, [some (.ref 128), some (.int x1), some (.int x2)], [.int s0, .int s1, .int s2, .ref 129], σ) = none :=
  (aUn_eq (tkd G.1 G.2) tmi (aRun (tkd G.1 G.2) tmi tmt d) M_13 [] 1 (33, [some (.ref 128), some (.int x1), some (.int x2)], [.int s0, .int s1, .int s2, .ref 129], σ)).trans rfl
theorem q_13_5747 (G : Nat × (Nat → Int32)) (d : Nat) (x1 : Int32) (x2 : Int32) (σ : aH) : Lq G d M_13 (7, [some (.ref 128), some (.int x1), some (.int x2)], [], σ) = Lq G d M_13 (14, [some (.ref 128), some (.int x1), some (.int x2)], [.ref 128, .int x2, .int x1, .ref 129], σ) :=
  (aUn_eq (tkd G.1 G.2) tmi (aRun (tkd G.1 G.2) tmi tmt d) M_13 [] 5 (7, [some (.ref 128), some (.int x1), some (.int x2)], [], σ)).trans rfl
theorem q_13_5748 (G : Nat × (Nat → Int32)) (d : Nat) (x1 : Int32) (x2 : Int32) (s1 : Int32) (s2 : Int32) (σ : aH) : Lq G d M_13 (14, [some (.ref 128), some (.int x1), some (.int x2)], [.ref 128, .int s1, .int s2, .ref 129], σ) = aCI (Rn G d 15 [.ref 128] σ) fun v2 σ1 => Lq G d M_13 (17, [some (.ref 128), some (.int x1), some (.int x2)], [.int v2, .int s1, .int s2, .ref 129], σ1) :=
  (aUn_eq (tkd G.1 G.2) tmi (aRun (tkd G.1 G.2) tmi tmt d) M_13 [] 1 (14, [some (.ref 128), some (.int x1), some (.int x2)], [.ref 128, .int s1, .int s2, .ref 129], σ)).trans rfl
theorem q_13_5749 (G : Nat × (Nat → Int32)) (d : Nat) (x1 : Int32) (x2 : Int32) (s0 : Int32) (s1 : Int32) (s2 : Int32) (σ : aH) : Lq G d M_13 (17, [some (.ref 128), some (.int x1), some (.int x2)], [.int s0, .int s1, .int s2, .ref 129], σ) = aCI (Rn G d 17 [.ref 129, .int s2, .int s1, .int s0] σ) fun v2 σ1 => Lq G d M_13 (20, [some (.ref 128), some (.int x1), some (.int x2)], [.int v2], σ1) :=
  (aUn_eq (tkd G.1 G.2) tmi (aRun (tkd G.1 G.2) tmi tmt d) M_13 [] 1 (17, [some (.ref 128), some (.int x1), some (.int x2)], [.int s0, .int s1, .int s2, .ref 129], σ)).trans rfl
theorem q_13_5750 (G : Nat × (Nat → Int32)) (d : Nat) (x1 : Int32) (x2 : Int32) (s0 : Int32) (σ : aH) : Lq G d M_13 (20, [some (.ref 128), some (.int x1), some (.int x2)], [.int s0], σ) = Lq G d M_13 (36, [some (.ref 128), some (.int x1), some (.int x2)], [.int s0], σ) :=
  (aUn_eq (tkd G.1 G.2) tmi (aRun (tkd G.1 G.2) tmi tmt d) M_13 [] 1 (20, [some (.ref 128), some (.int x1), some (.int x2)], [.int s0], σ)).trans rfl
theorem q_13_5751 (G : Nat × (Nat → Int32)) (d : Nat) (x1 : Int32) (x2 : Int32) (s0 : Int32) (σ : aH) : Lq G d M_13 (36, [some (.ref 128), some (.int x1), some (.int x2)], [.int s0], σ) = some (.inl (some (.int s0)), σ) :=
  (aUn_eq (tkd G.1 G.2) tmi (aRun (tkd G.1 G.2) tmi tmt d) M_13 [] 1 (36, [some (.ref 128), some (.int x1), some (.int x2)], [.int s0], σ)).trans rfl
theorem q_16_5752 (G : Nat × (Nat → Int32)) (d : Nat)  (σ : aH) : Lq G d M_16 (0, [some (.ref 70)], [], σ) = Lq G d M_16 (3, [some (.ref 70)], [.int (1 : Int32)], σ) :=
  (aUn_eq (tkd G.1 G.2) tmi (aRun (tkd G.1 G.2) tmi tmt d) M_16 [] 1 (0, [some (.ref 70)], [], σ)).trans rfl
theorem q_16_5753 (G : Nat × (Nat → Int32)) (d : Nat) (s0 : Int32) (σ : aH) : Lq G d M_16 (3, [some (.ref 70)], [.int s0], σ) = if s0 = 0 then Lq G d M_16 (13, [some (.ref 70)], [], σ) else Lq G d M_16 (6, [some (.ref 70)], [], σ) :=
  (aUn_eq (tkd G.1 G.2) tmi (aRun (tkd G.1 G.2) tmi tmt d) M_16 [] 1 (3, [some (.ref 70)], [.int s0], σ)).trans rfl
theorem q_16_5754 (G : Nat × (Nat → Int32)) (d : Nat)  (σ : aH) : Lq G d M_16 (13, [some (.ref 70)], [], σ) = Lq G d M_16 (14, [some (.ref 70)], [.int (1 : Int32)], σ) :=
  (aUn_eq (tkd G.1 G.2) tmi (aRun (tkd G.1 G.2) tmi tmt d) M_16 [] 1 (13, [some (.ref 70)], [], σ)).trans rfl
theorem q_16_5755 (G : Nat × (Nat → Int32)) (d : Nat) (s0 : Int32) (σ : aH) : Lq G d M_16 (14, [some (.ref 70)], [.int s0], σ) = aNar .byte (s0) (some (.inl (some (.int s0)), σ)) :=
  (aUn_eq (tkd G.1 G.2) tmi (aRun (tkd G.1 G.2) tmi tmt d) M_16 [] 1 (14, [some (.ref 70)], [.int s0], σ)).trans rfl
theorem q_16_5756 (G : Nat × (Nat → Int32)) (d : Nat)  (σ : aH) : Lq G d M_16 (6, [some (.ref 70)], [], σ) = Lq G d M_16 (14, [some (.ref 70)], [.int (0 : Int32)], σ) :=
  (aUn_eq (tkd G.1 G.2) tmi (aRun (tkd G.1 G.2) tmi tmt d) M_16 [] 3 (6, [some (.ref 70)], [], σ)).trans rfl
theorem q_16_5757 (G : Nat × (Nat → Int32)) (d : Nat)  (σ : aH) : Lq G d M_16 (0, [some (.ref 72)], [], σ) = Lq G d M_16 (3, [some (.ref 72)], [.int (1 : Int32)], σ) :=
  (aUn_eq (tkd G.1 G.2) tmi (aRun (tkd G.1 G.2) tmi tmt d) M_16 [] 1 (0, [some (.ref 72)], [], σ)).trans rfl
theorem q_16_5758 (G : Nat × (Nat → Int32)) (d : Nat) (s0 : Int32) (σ : aH) : Lq G d M_16 (3, [some (.ref 72)], [.int s0], σ) = if s0 = 0 then Lq G d M_16 (13, [some (.ref 72)], [], σ) else Lq G d M_16 (6, [some (.ref 72)], [], σ) :=
  (aUn_eq (tkd G.1 G.2) tmi (aRun (tkd G.1 G.2) tmi tmt d) M_16 [] 1 (3, [some (.ref 72)], [.int s0], σ)).trans rfl
theorem q_16_5759 (G : Nat × (Nat → Int32)) (d : Nat)  (σ : aH) : Lq G d M_16 (13, [some (.ref 72)], [], σ) = Lq G d M_16 (14, [some (.ref 72)], [.int (1 : Int32)], σ) :=
  (aUn_eq (tkd G.1 G.2) tmi (aRun (tkd G.1 G.2) tmi tmt d) M_16 [] 1 (13, [some (.ref 72)], [], σ)).trans rfl
theorem q_16_5760 (G : Nat × (Nat → Int32)) (d : Nat) (s0 : Int32) (σ : aH) : Lq G d M_16 (14, [some (.ref 72)], [.int s0], σ) = aNar .byte (s0) (some (.inl (some (.int s0)), σ)) :=
  (aUn_eq (tkd G.1 G.2) tmi (aRun (tkd G.1 G.2) tmi tmt d) M_16 [] 1 (14, [some (.ref 72)], [.int s0], σ)).trans rfl
theorem q_16_5761 (G : Nat × (Nat → Int32)) (d : Nat)  (σ : aH) : Lq G d M_16 (6, [some (.ref 72)], [], σ) = Lq G d M_16 (14, [some (.ref 72)], [.int (0 : Int32)], σ) :=
  (aUn_eq (tkd G.1 G.2) tmi (aRun (tkd G.1 G.2) tmi tmt d) M_16 [] 3 (6, [some (.ref 72)], [], σ)).trans rfl
theorem q_16_5762 (G : Nat × (Nat → Int32)) (d : Nat)  (σ : aH) : Lq G d M_16 (0, [some (.ref 74)], [], σ) = Lq G d M_16 (3, [some (.ref 74)], [.int (1 : Int32)], σ) :=
  (aUn_eq (tkd G.1 G.2) tmi (aRun (tkd G.1 G.2) tmi tmt d) M_16 [] 1 (0, [some (.ref 74)], [], σ)).trans rfl
theorem q_16_5763 (G : Nat × (Nat → Int32)) (d : Nat) (s0 : Int32) (σ : aH) : Lq G d M_16 (3, [some (.ref 74)], [.int s0], σ) = if s0 = 0 then Lq G d M_16 (13, [some (.ref 74)], [], σ) else Lq G d M_16 (6, [some (.ref 74)], [], σ) :=
  (aUn_eq (tkd G.1 G.2) tmi (aRun (tkd G.1 G.2) tmi tmt d) M_16 [] 1 (3, [some (.ref 74)], [.int s0], σ)).trans rfl
theorem q_16_5764 (G : Nat × (Nat → Int32)) (d : Nat)  (σ : aH) : Lq G d M_16 (13, [some (.ref 74)], [], σ) = Lq G d M_16 (14, [some (.ref 74)], [.int (1 : Int32)], σ) :=
  (aUn_eq (tkd G.1 G.2) tmi (aRun (tkd G.1 G.2) tmi tmt d) M_16 [] 1 (13, [some (.ref 74)], [], σ)).trans rfl
theorem q_16_5765 (G : Nat × (Nat → Int32)) (d : Nat) (s0 : Int32) (σ : aH) : Lq G d M_16 (14, [some (.ref 74)], [.int s0], σ) = aNar .byte (s0) (some (.inl (some (.int s0)), σ)) :=
  (aUn_eq (tkd G.1 G.2) tmi (aRun (tkd G.1 G.2) tmi tmt d) M_16 [] 1 (14, [some (.ref 74)], [.int s0], σ)).trans rfl
theorem q_16_5766 (G : Nat × (Nat → Int32)) (d : Nat)  (σ : aH) : Lq G d M_16 (6, [some (.ref 74)], [], σ) = Lq G d M_16 (14, [some (.ref 74)], [.int (0 : Int32)], σ) :=
  (aUn_eq (tkd G.1 G.2) tmi (aRun (tkd G.1 G.2) tmi tmt d) M_16 [] 3 (6, [some (.ref 74)], [], σ)).trans rfl
theorem q_16_5767 (G : Nat × (Nat → Int32)) (d : Nat)  (σ : aH) : Lq G d M_16 (0, [some (.ref 76)], [], σ) = Lq G d M_16 (3, [some (.ref 76)], [.int (1 : Int32)], σ) :=
  (aUn_eq (tkd G.1 G.2) tmi (aRun (tkd G.1 G.2) tmi tmt d) M_16 [] 1 (0, [some (.ref 76)], [], σ)).trans rfl
theorem q_16_5768 (G : Nat × (Nat → Int32)) (d : Nat) (s0 : Int32) (σ : aH) : Lq G d M_16 (3, [some (.ref 76)], [.int s0], σ) = if s0 = 0 then Lq G d M_16 (13, [some (.ref 76)], [], σ) else Lq G d M_16 (6, [some (.ref 76)], [], σ) :=
  (aUn_eq (tkd G.1 G.2) tmi (aRun (tkd G.1 G.2) tmi tmt d) M_16 [] 1 (3, [some (.ref 76)], [.int s0], σ)).trans rfl
theorem q_16_5769 (G : Nat × (Nat → Int32)) (d : Nat)  (σ : aH) : Lq G d M_16 (13, [some (.ref 76)], [], σ) = Lq G d M_16 (14, [some (.ref 76)], [.int (1 : Int32)], σ) :=
  (aUn_eq (tkd G.1 G.2) tmi (aRun (tkd G.1 G.2) tmi tmt d) M_16 [] 1 (13, [some (.ref 76)], [], σ)).trans rfl
theorem q_16_5770 (G : Nat × (Nat → Int32)) (d : Nat) (s0 : Int32) (σ : aH) : Lq G d M_16 (14, [some (.ref 76)], [.int s0], σ) = aNar .byte (s0) (some (.inl (some (.int s0)), σ)) :=
  (aUn_eq (tkd G.1 G.2) tmi (aRun (tkd G.1 G.2) tmi tmt d) M_16 [] 1 (14, [some (.ref 76)], [.int s0], σ)).trans rfl
theorem q_16_5771 (G : Nat × (Nat → Int32)) (d : Nat)  (σ : aH) : Lq G d M_16 (6, [some (.ref 76)], [], σ) = Lq G d M_16 (14, [some (.ref 76)], [.int (0 : Int32)], σ) :=
  (aUn_eq (tkd G.1 G.2) tmi (aRun (tkd G.1 G.2) tmi tmt d) M_16 [] 3 (6, [some (.ref 76)], [], σ)).trans rfl
theorem q_16_5772 (G : Nat × (Nat → Int32)) (d : Nat)  (σ : aH) : Lq G d M_16 (0, [some (.ref 78)], [], σ) = Lq G d M_16 (3, [some (.ref 78)], [.int (1 : Int32)], σ) :=
  (aUn_eq (tkd G.1 G.2) tmi (aRun (tkd G.1 G.2) tmi tmt d) M_16 [] 1 (0, [some (.ref 78)], [], σ)).trans rfl
theorem q_16_5773 (G : Nat × (Nat → Int32)) (d : Nat) (s0 : Int32) (σ : aH) : Lq G d M_16 (3, [some (.ref 78)], [.int s0], σ) = if s0 = 0 then Lq G d M_16 (13, [some (.ref 78)], [], σ) else Lq G d M_16 (6, [some (.ref 78)], [], σ) :=
  (aUn_eq (tkd G.1 G.2) tmi (aRun (tkd G.1 G.2) tmi tmt d) M_16 [] 1 (3, [some (.ref 78)], [.int s0], σ)).trans rfl
theorem q_16_5774 (G : Nat × (Nat → Int32)) (d : Nat)  (σ : aH) : Lq G d M_16 (13, [some (.ref 78)], [], σ) = Lq G d M_16 (14, [some (.ref 78)], [.int (1 : Int32)], σ) :=
  (aUn_eq (tkd G.1 G.2) tmi (aRun (tkd G.1 G.2) tmi tmt d) M_16 [] 1 (13, [some (.ref 78)], [], σ)).trans rfl
theorem q_16_5775 (G : Nat × (Nat → Int32)) (d : Nat) (s0 : Int32) (σ : aH) : Lq G d M_16 (14, [some (.ref 78)], [.int s0], σ) = aNar .byte (s0) (some (.inl (some (.int s0)), σ)) :=
  (aUn_eq (tkd G.1 G.2) tmi (aRun (tkd G.1 G.2) tmi tmt d) M_16 [] 1 (14, [some (.ref 78)], [.int s0], σ)).trans rfl
theorem q_16_5776 (G : Nat × (Nat → Int32)) (d : Nat)  (σ : aH) : Lq G d M_16 (6, [some (.ref 78)], [], σ) = Lq G d M_16 (14, [some (.ref 78)], [.int (0 : Int32)], σ) :=
  (aUn_eq (tkd G.1 G.2) tmi (aRun (tkd G.1 G.2) tmi tmt d) M_16 [] 3 (6, [some (.ref 78)], [], σ)).trans rfl
theorem q_16_5777 (G : Nat × (Nat → Int32)) (d : Nat)  (σ : aH) : Lq G d M_16 (0, [some (.ref 80)], [], σ) = Lq G d M_16 (3, [some (.ref 80)], [.int (1 : Int32)], σ) :=
  (aUn_eq (tkd G.1 G.2) tmi (aRun (tkd G.1 G.2) tmi tmt d) M_16 [] 1 (0, [some (.ref 80)], [], σ)).trans rfl
theorem q_16_5778 (G : Nat × (Nat → Int32)) (d : Nat) (s0 : Int32) (σ : aH) : Lq G d M_16 (3, [some (.ref 80)], [.int s0], σ) = if s0 = 0 then Lq G d M_16 (13, [some (.ref 80)], [], σ) else Lq G d M_16 (6, [some (.ref 80)], [], σ) :=
  (aUn_eq (tkd G.1 G.2) tmi (aRun (tkd G.1 G.2) tmi tmt d) M_16 [] 1 (3, [some (.ref 80)], [.int s0], σ)).trans rfl
theorem q_16_5779 (G : Nat × (Nat → Int32)) (d : Nat)  (σ : aH) : Lq G d M_16 (13, [some (.ref 80)], [], σ) = Lq G d M_16 (14, [some (.ref 80)], [.int (1 : Int32)], σ) :=
  (aUn_eq (tkd G.1 G.2) tmi (aRun (tkd G.1 G.2) tmi tmt d) M_16 [] 1 (13, [some (.ref 80)], [], σ)).trans rfl
theorem q_16_5780 (G : Nat × (Nat → Int32)) (d : Nat) (s0 : Int32) (σ : aH) : Lq G d M_16 (14, [some (.ref 80)], [.int s0], σ) = aNar .byte (s0) (some (.inl (some (.int s0)), σ)) :=
  (aUn_eq (tkd G.1 G.2) tmi (aRun (tkd G.1 G.2) tmi tmt d) M_16 [] 1 (14, [some (.ref 80)], [.int s0], σ)).trans rfl
theorem q_16_5781 (G : Nat × (Nat → Int32)) (d : Nat)  (σ : aH) : Lq G d M_16 (6, [some (.ref 80)], [], σ) = Lq G d M_16 (14, [some (.ref 80)], [.int (0 : Int32)], σ) :=
  (aUn_eq (tkd G.1 G.2) tmi (aRun (tkd G.1 G.2) tmi tmt d) M_16 [] 3 (6, [some (.ref 80)], [], σ)).trans rfl
theorem q_16_5782 (G : Nat × (Nat → Int32)) (d : Nat)  (σ : aH) : Lq G d M_16 (0, [some (.ref 82)], [], σ) = Lq G d M_16 (3, [some (.ref 82)], [.int (1 : Int32)], σ) :=
  (aUn_eq (tkd G.1 G.2) tmi (aRun (tkd G.1 G.2) tmi tmt d) M_16 [] 1 (0, [some (.ref 82)], [], σ)).trans rfl
theorem q_16_5783 (G : Nat × (Nat → Int32)) (d : Nat) (s0 : Int32) (σ : aH) : Lq G d M_16 (3, [some (.ref 82)], [.int s0], σ) = if s0 = 0 then Lq G d M_16 (13, [some (.ref 82)], [], σ) else Lq G d M_16 (6, [some (.ref 82)], [], σ) :=
  (aUn_eq (tkd G.1 G.2) tmi (aRun (tkd G.1 G.2) tmi tmt d) M_16 [] 1 (3, [some (.ref 82)], [.int s0], σ)).trans rfl
theorem q_16_5784 (G : Nat × (Nat → Int32)) (d : Nat)  (σ : aH) : Lq G d M_16 (13, [some (.ref 82)], [], σ) = Lq G d M_16 (14, [some (.ref 82)], [.int (1 : Int32)], σ) :=
  (aUn_eq (tkd G.1 G.2) tmi (aRun (tkd G.1 G.2) tmi tmt d) M_16 [] 1 (13, [some (.ref 82)], [], σ)).trans rfl
theorem q_16_5785 (G : Nat × (Nat → Int32)) (d : Nat) (s0 : Int32) (σ : aH) : Lq G d M_16 (14, [some (.ref 82)], [.int s0], σ) = aNar .byte (s0) (some (.inl (some (.int s0)), σ)) :=
  (aUn_eq (tkd G.1 G.2) tmi (aRun (tkd G.1 G.2) tmi tmt d) M_16 [] 1 (14, [some (.ref 82)], [.int s0], σ)).trans rfl
theorem q_16_5786 (G : Nat × (Nat → Int32)) (d : Nat)  (σ : aH) : Lq G d M_16 (6, [some (.ref 82)], [], σ) = Lq G d M_16 (14, [some (.ref 82)], [.int (0 : Int32)], σ) :=
  (aUn_eq (tkd G.1 G.2) tmi (aRun (tkd G.1 G.2) tmi tmt d) M_16 [] 3 (6, [some (.ref 82)], [], σ)).trans rfl
theorem q_16_5787 (G : Nat × (Nat → Int32)) (d : Nat)  (σ : aH) : Lq G d M_16 (0, [some (.ref 84)], [], σ) = Lq G d M_16 (3, [some (.ref 84)], [.int (1 : Int32)], σ) :=
  (aUn_eq (tkd G.1 G.2) tmi (aRun (tkd G.1 G.2) tmi tmt d) M_16 [] 1 (0, [some (.ref 84)], [], σ)).trans rfl
theorem q_16_5788 (G : Nat × (Nat → Int32)) (d : Nat) (s0 : Int32) (σ : aH) : Lq G d M_16 (3, [some (.ref 84)], [.int s0], σ) = if s0 = 0 then Lq G d M_16 (13, [some (.ref 84)], [], σ) else Lq G d M_16 (6, [some (.ref 84)], [], σ) :=
  (aUn_eq (tkd G.1 G.2) tmi (aRun (tkd G.1 G.2) tmi tmt d) M_16 [] 1 (3, [some (.ref 84)], [.int s0], σ)).trans rfl
theorem q_16_5789 (G : Nat × (Nat → Int32)) (d : Nat)  (σ : aH) : Lq G d M_16 (13, [some (.ref 84)], [], σ) = Lq G d M_16 (14, [some (.ref 84)], [.int (1 : Int32)], σ) :=
  (aUn_eq (tkd G.1 G.2) tmi (aRun (tkd G.1 G.2) tmi tmt d) M_16 [] 1 (13, [some (.ref 84)], [], σ)).trans rfl
theorem q_16_5790 (G : Nat × (Nat → Int32)) (d : Nat) (s0 : Int32) (σ : aH) : Lq G d M_16 (14, [some (.ref 84)], [.int s0], σ) = aNar .byte (s0) (some (.inl (some (.int s0)), σ)) :=
  (aUn_eq (tkd G.1 G.2) tmi (aRun (tkd G.1 G.2) tmi tmt d) M_16 [] 1 (14, [some (.ref 84)], [.int s0], σ)).trans rfl
theorem q_16_5791 (G : Nat × (Nat → Int32)) (d : Nat)  (σ : aH) : Lq G d M_16 (6, [some (.ref 84)], [], σ) = Lq G d M_16 (14, [some (.ref 84)], [.int (0 : Int32)], σ) :=
  (aUn_eq (tkd G.1 G.2) tmi (aRun (tkd G.1 G.2) tmi tmt d) M_16 [] 3 (6, [some (.ref 84)], [], σ)).trans rfl
theorem q_16_5792 (G : Nat × (Nat → Int32)) (d : Nat)  (σ : aH) : Lq G d M_16 (0, [some (.ref 86)], [], σ) = Lq G d M_16 (3, [some (.ref 86)], [.int (1 : Int32)], σ) :=
  (aUn_eq (tkd G.1 G.2) tmi (aRun (tkd G.1 G.2) tmi tmt d) M_16 [] 1 (0, [some (.ref 86)], [], σ)).trans rfl
theorem q_16_5793 (G : Nat × (Nat → Int32)) (d : Nat) (s0 : Int32) (σ : aH) : Lq G d M_16 (3, [some (.ref 86)], [.int s0], σ) = if s0 = 0 then Lq G d M_16 (13, [some (.ref 86)], [], σ) else Lq G d M_16 (6, [some (.ref 86)], [], σ) :=
  (aUn_eq (tkd G.1 G.2) tmi (aRun (tkd G.1 G.2) tmi tmt d) M_16 [] 1 (3, [some (.ref 86)], [.int s0], σ)).trans rfl
theorem q_16_5794 (G : Nat × (Nat → Int32)) (d : Nat)  (σ : aH) : Lq G d M_16 (13, [some (.ref 86)], [], σ) = Lq G d M_16 (14, [some (.ref 86)], [.int (1 : Int32)], σ) :=
  (aUn_eq (tkd G.1 G.2) tmi (aRun (tkd G.1 G.2) tmi tmt d) M_16 [] 1 (13, [some (.ref 86)], [], σ)).trans rfl
theorem q_16_5795 (G : Nat × (Nat → Int32)) (d : Nat) (s0 : Int32) (σ : aH) : Lq G d M_16 (14, [some (.ref 86)], [.int s0], σ) = aNar .byte (s0) (some (.inl (some (.int s0)), σ)) :=
  (aUn_eq (tkd G.1 G.2) tmi (aRun (tkd G.1 G.2) tmi tmt d) M_16 [] 1 (14, [some (.ref 86)], [.int s0], σ)).trans rfl
theorem q_16_5796 (G : Nat × (Nat → Int32)) (d : Nat)  (σ : aH) : Lq G d M_16 (6, [some (.ref 86)], [], σ) = Lq G d M_16 (14, [some (.ref 86)], [.int (0 : Int32)], σ) :=
  (aUn_eq (tkd G.1 G.2) tmi (aRun (tkd G.1 G.2) tmi tmt d) M_16 [] 3 (6, [some (.ref 86)], [], σ)).trans rfl
theorem q_16_5797 (G : Nat × (Nat → Int32)) (d : Nat)  (σ : aH) : Lq G d M_16 (0, [some (.ref 88)], [], σ) = Lq G d M_16 (3, [some (.ref 88)], [.int (1 : Int32)], σ) :=
  (aUn_eq (tkd G.1 G.2) tmi (aRun (tkd G.1 G.2) tmi tmt d) M_16 [] 1 (0, [some (.ref 88)], [], σ)).trans rfl
theorem q_16_5798 (G : Nat × (Nat → Int32)) (d : Nat) (s0 : Int32) (σ : aH) : Lq G d M_16 (3, [some (.ref 88)], [.int s0], σ) = if s0 = 0 then Lq G d M_16 (13, [some (.ref 88)], [], σ) else Lq G d M_16 (6, [some (.ref 88)], [], σ) :=
  (aUn_eq (tkd G.1 G.2) tmi (aRun (tkd G.1 G.2) tmi tmt d) M_16 [] 1 (3, [some (.ref 88)], [.int s0], σ)).trans rfl
theorem q_16_5799 (G : Nat × (Nat → Int32)) (d : Nat)  (σ : aH) : Lq G d M_16 (13, [some (.ref 88)], [], σ) = Lq G d M_16 (14, [some (.ref 88)], [.int (1 : Int32)], σ) :=
  (aUn_eq (tkd G.1 G.2) tmi (aRun (tkd G.1 G.2) tmi tmt d) M_16 [] 1 (13, [some (.ref 88)], [], σ)).trans rfl
theorem q_16_5800 (G : Nat × (Nat → Int32)) (d : Nat) (s0 : Int32) (σ : aH) : Lq G d M_16 (14, [some (.ref 88)], [.int s0], σ) = aNar .byte (s0) (some (.inl (some (.int s0)), σ)) :=
  (aUn_eq (tkd G.1 G.2) tmi (aRun (tkd G.1 G.2) tmi tmt d) M_16 [] 1 (14, [some (.ref 88)], [.int s0], σ)).trans rfl
theorem q_16_5801 (G : Nat × (Nat → Int32)) (d : Nat)  (σ : aH) : Lq G d M_16 (6, [some (.ref 88)], [], σ) = Lq G d M_16 (14, [some (.ref 88)], [.int (0 : Int32)], σ) :=
  (aUn_eq (tkd G.1 G.2) tmi (aRun (tkd G.1 G.2) tmi tmt d) M_16 [] 3 (6, [some (.ref 88)], [], σ)).trans rfl
theorem q_16_5802 (G : Nat × (Nat → Int32)) (d : Nat)  (σ : aH) : Lq G d M_16 (0, [some (.ref 90)], [], σ) = Lq G d M_16 (3, [some (.ref 90)], [.int (1 : Int32)], σ) :=
  (aUn_eq (tkd G.1 G.2) tmi (aRun (tkd G.1 G.2) tmi tmt d) M_16 [] 1 (0, [some (.ref 90)], [], σ)).trans rfl
theorem q_16_5803 (G : Nat × (Nat → Int32)) (d : Nat) (s0 : Int32) (σ : aH) : Lq G d M_16 (3, [some (.ref 90)], [.int s0], σ) = if s0 = 0 then Lq G d M_16 (13, [some (.ref 90)], [], σ) else Lq G d M_16 (6, [some (.ref 90)], [], σ) :=
  (aUn_eq (tkd G.1 G.2) tmi (aRun (tkd G.1 G.2) tmi tmt d) M_16 [] 1 (3, [some (.ref 90)], [.int s0], σ)).trans rfl
theorem q_16_5804 (G : Nat × (Nat → Int32)) (d : Nat)  (σ : aH) : Lq G d M_16 (13, [some (.ref 90)], [], σ) = Lq G d M_16 (14, [some (.ref 90)], [.int (1 : Int32)], σ) :=
  (aUn_eq (tkd G.1 G.2) tmi (aRun (tkd G.1 G.2) tmi tmt d) M_16 [] 1 (13, [some (.ref 90)], [], σ)).trans rfl
theorem q_16_5805 (G : Nat × (Nat → Int32)) (d : Nat) (s0 : Int32) (σ : aH) : Lq G d M_16 (14, [some (.ref 90)], [.int s0], σ) = aNar .byte (s0) (some (.inl (some (.int s0)), σ)) :=
  (aUn_eq (tkd G.1 G.2) tmi (aRun (tkd G.1 G.2) tmi tmt d) M_16 [] 1 (14, [some (.ref 90)], [.int s0], σ)).trans rfl
theorem q_16_5806 (G : Nat × (Nat → Int32)) (d : Nat)  (σ : aH) : Lq G d M_16 (6, [some (.ref 90)], [], σ) = Lq G d M_16 (14, [some (.ref 90)], [.int (0 : Int32)], σ) :=
  (aUn_eq (tkd G.1 G.2) tmi (aRun (tkd G.1 G.2) tmi tmt d) M_16 [] 3 (6, [some (.ref 90)], [], σ)).trans rfl
theorem q_16_5807 (G : Nat × (Nat → Int32)) (d : Nat)  (σ : aH) : Lq G d M_16 (0, [some (.ref 92)], [], σ) = Lq G d M_16 (3, [some (.ref 92)], [.int (1 : Int32)], σ) :=
  (aUn_eq (tkd G.1 G.2) tmi (aRun (tkd G.1 G.2) tmi tmt d) M_16 [] 1 (0, [some (.ref 92)], [], σ)).trans rfl
theorem q_16_5808 (G : Nat × (Nat → Int32)) (d : Nat) (s0 : Int32) (σ : aH) : Lq G d M_16 (3, [some (.ref 92)], [.int s0], σ) = if s0 = 0 then Lq G d M_16 (13, [some (.ref 92)], [], σ) else Lq G d M_16 (6, [some (.ref 92)], [], σ) :=
  (aUn_eq (tkd G.1 G.2) tmi (aRun (tkd G.1 G.2) tmi tmt d) M_16 [] 1 (3, [some (.ref 92)], [.int s0], σ)).trans rfl
theorem q_16_5809 (G : Nat × (Nat → Int32)) (d : Nat)  (σ : aH) : Lq G d M_16 (13, [some (.ref 92)], [], σ) = Lq G d M_16 (14, [some (.ref 92)], [.int (1 : Int32)], σ) :=
  (aUn_eq (tkd G.1 G.2) tmi (aRun (tkd G.1 G.2) tmi tmt d) M_16 [] 1 (13, [some (.ref 92)], [], σ)).trans rfl
theorem q_16_5810 (G : Nat × (Nat → Int32)) (d : Nat) (s0 : Int32) (σ : aH) : Lq G d M_16 (14, [some (.ref 92)], [.int s0], σ) = aNar .byte (s0) (some (.inl (some (.int s0)), σ)) :=
  (aUn_eq (tkd G.1 G.2) tmi (aRun (tkd G.1 G.2) tmi tmt d) M_16 [] 1 (14, [some (.ref 92)], [.int s0], σ)).trans rfl
theorem q_16_5811 (G : Nat × (Nat → Int32)) (d : Nat)  (σ : aH) : Lq G d M_16 (6, [some (.ref 92)], [], σ) = Lq G d M_16 (14, [some (.ref 92)], [.int (0 : Int32)], σ) :=
  (aUn_eq (tkd G.1 G.2) tmi (aRun (tkd G.1 G.2) tmi tmt d) M_16 [] 3 (6, [some (.ref 92)], [], σ)).trans rfl
theorem q_16_5812 (G : Nat × (Nat → Int32)) (d : Nat)  (σ : aH) : Lq G d M_16 (0, [some (.ref 94)], [], σ) = Lq G d M_16 (3, [some (.ref 94)], [.int (1 : Int32)], σ) :=
  (aUn_eq (tkd G.1 G.2) tmi (aRun (tkd G.1 G.2) tmi tmt d) M_16 [] 1 (0, [some (.ref 94)], [], σ)).trans rfl
theorem q_16_5813 (G : Nat × (Nat → Int32)) (d : Nat) (s0 : Int32) (σ : aH) : Lq G d M_16 (3, [some (.ref 94)], [.int s0], σ) = if s0 = 0 then Lq G d M_16 (13, [some (.ref 94)], [], σ) else Lq G d M_16 (6, [some (.ref 94)], [], σ) :=
  (aUn_eq (tkd G.1 G.2) tmi (aRun (tkd G.1 G.2) tmi tmt d) M_16 [] 1 (3, [some (.ref 94)], [.int s0], σ)).trans rfl
theorem q_16_5814 (G : Nat × (Nat → Int32)) (d : Nat)  (σ : aH) : Lq G d M_16 (13, [some (.ref 94)], [], σ) = Lq G d M_16 (14, [some (.ref 94)], [.int (1 : Int32)], σ) :=
  (aUn_eq (tkd G.1 G.2) tmi (aRun (tkd G.1 G.2) tmi tmt d) M_16 [] 1 (13, [some (.ref 94)], [], σ)).trans rfl
theorem q_16_5815 (G : Nat × (Nat → Int32)) (d : Nat) (s0 : Int32) (σ : aH) : Lq G d M_16 (14, [some (.ref 94)], [.int s0], σ) = aNar .byte (s0) (some (.inl (some (.int s0)), σ)) :=
  (aUn_eq (tkd G.1 G.2) tmi (aRun (tkd G.1 G.2) tmi tmt d) M_16 [] 1 (14, [some (.ref 94)], [.int s0], σ)).trans rfl
theorem q_16_5816 (G : Nat × (Nat → Int32)) (d : Nat)  (σ : aH) : Lq G d M_16 (6, [some (.ref 94)], [], σ) = Lq G d M_16 (14, [some (.ref 94)], [.int (0 : Int32)], σ) :=
  (aUn_eq (tkd G.1 G.2) tmi (aRun (tkd G.1 G.2) tmi tmt d) M_16 [] 3 (6, [some (.ref 94)], [], σ)).trans rfl
theorem q_16_5817 (G : Nat × (Nat → Int32)) (d : Nat)  (σ : aH) : Lq G d M_16 (0, [some (.ref 96)], [], σ) = Lq G d M_16 (3, [some (.ref 96)], [.int (1 : Int32)], σ) :=
  (aUn_eq (tkd G.1 G.2) tmi (aRun (tkd G.1 G.2) tmi tmt d) M_16 [] 1 (0, [some (.ref 96)], [], σ)).trans rfl
theorem q_16_5818 (G : Nat × (Nat → Int32)) (d : Nat) (s0 : Int32) (σ : aH) : Lq G d M_16 (3, [some (.ref 96)], [.int s0], σ) = if s0 = 0 then Lq G d M_16 (13, [some (.ref 96)], [], σ) else Lq G d M_16 (6, [some (.ref 96)], [], σ) :=
  (aUn_eq (tkd G.1 G.2) tmi (aRun (tkd G.1 G.2) tmi tmt d) M_16 [] 1 (3, [some (.ref 96)], [.int s0], σ)).trans rfl
theorem q_16_5819 (G : Nat × (Nat → Int32)) (d : Nat)  (σ : aH) : Lq G d M_16 (13, [some (.ref 96)], [], σ) = Lq G d M_16 (14, [some (.ref 96)], [.int (1 : Int32)], σ) :=
  (aUn_eq (tkd G.1 G.2) tmi (aRun (tkd G.1 G.2) tmi tmt d) M_16 [] 1 (13, [some (.ref 96)], [], σ)).trans rfl
theorem q_16_5820 (G : Nat × (Nat → Int32)) (d : Nat) (s0 : Int32) (σ : aH) : Lq G d M_16 (14, [some (.ref 96)], [.int s0], σ) = aNar .byte (s0) (some (.inl (some (.int s0)), σ)) :=
  (aUn_eq (tkd G.1 G.2) tmi (aRun (tkd G.1 G.2) tmi tmt d) M_16 [] 1 (14, [some (.ref 96)], [.int s0], σ)).trans rfl
theorem q_16_5821 (G : Nat × (Nat → Int32)) (d : Nat)  (σ : aH) : Lq G d M_16 (6, [some (.ref 96)], [], σ) = Lq G d M_16 (14, [some (.ref 96)], [.int (0 : Int32)], σ) :=
  (aUn_eq (tkd G.1 G.2) tmi (aRun (tkd G.1 G.2) tmi tmt d) M_16 [] 3 (6, [some (.ref 96)], [], σ)).trans rfl
theorem q_16_5822 (G : Nat × (Nat → Int32)) (d : Nat)  (σ : aH) : Lq G d M_16 (0, [some (.ref 98)], [], σ) = Lq G d M_16 (3, [some (.ref 98)], [.int (1 : Int32)], σ) :=
  (aUn_eq (tkd G.1 G.2) tmi (aRun (tkd G.1 G.2) tmi tmt d) M_16 [] 1 (0, [some (.ref 98)], [], σ)).trans rfl
theorem q_16_5823 (G : Nat × (Nat → Int32)) (d : Nat) (s0 : Int32) (σ : aH) : Lq G d M_16 (3, [some (.ref 98)], [.int s0], σ) = if s0 = 0 then Lq G d M_16 (13, [some (.ref 98)], [], σ) else Lq G d M_16 (6, [some (.ref 98)], [], σ) :=
  (aUn_eq (tkd G.1 G.2) tmi (aRun (tkd G.1 G.2) tmi tmt d) M_16 [] 1 (3, [some (.ref 98)], [.int s0], σ)).trans rfl
theorem q_16_5824 (G : Nat × (Nat → Int32)) (d : Nat)  (σ : aH) : Lq G d M_16 (13, [some (.ref 98)], [], σ) = Lq G d M_16 (14, [some (.ref 98)], [.int (1 : Int32)], σ) :=
  (aUn_eq (tkd G.1 G.2) tmi (aRun (tkd G.1 G.2) tmi tmt d) M_16 [] 1 (13, [some (.ref 98)], [], σ)).trans rfl
theorem q_16_5825 (G : Nat × (Nat → Int32)) (d : Nat) (s0 : Int32) (σ : aH) : Lq G d M_16 (14, [some (.ref 98)], [.int s0], σ) = aNar .byte (s0) (some (.inl (some (.int s0)), σ)) :=
  (aUn_eq (tkd G.1 G.2) tmi (aRun (tkd G.1 G.2) tmi tmt d) M_16 [] 1 (14, [some (.ref 98)], [.int s0], σ)).trans rfl
theorem q_16_5826 (G : Nat × (Nat → Int32)) (d : Nat)  (σ : aH) : Lq G d M_16 (6, [some (.ref 98)], [], σ) = Lq G d M_16 (14, [some (.ref 98)], [.int (0 : Int32)], σ) :=
  (aUn_eq (tkd G.1 G.2) tmi (aRun (tkd G.1 G.2) tmi tmt d) M_16 [] 3 (6, [some (.ref 98)], [], σ)).trans rfl
theorem q_16_5827 (G : Nat × (Nat → Int32)) (d : Nat)  (σ : aH) : Lq G d M_16 (0, [some (.ref 100)], [], σ) = Lq G d M_16 (3, [some (.ref 100)], [.int (1 : Int32)], σ) :=
  (aUn_eq (tkd G.1 G.2) tmi (aRun (tkd G.1 G.2) tmi tmt d) M_16 [] 1 (0, [some (.ref 100)], [], σ)).trans rfl
theorem q_16_5828 (G : Nat × (Nat → Int32)) (d : Nat) (s0 : Int32) (σ : aH) : Lq G d M_16 (3, [some (.ref 100)], [.int s0], σ) = if s0 = 0 then Lq G d M_16 (13, [some (.ref 100)], [], σ) else Lq G d M_16 (6, [some (.ref 100)], [], σ) :=
  (aUn_eq (tkd G.1 G.2) tmi (aRun (tkd G.1 G.2) tmi tmt d) M_16 [] 1 (3, [some (.ref 100)], [.int s0], σ)).trans rfl
theorem q_16_5829 (G : Nat × (Nat → Int32)) (d : Nat)  (σ : aH) : Lq G d M_16 (13, [some (.ref 100)], [], σ) = Lq G d M_16 (14, [some (.ref 100)], [.int (1 : Int32)], σ) :=
  (aUn_eq (tkd G.1 G.2) tmi (aRun (tkd G.1 G.2) tmi tmt d) M_16 [] 1 (13, [some (.ref 100)], [], σ)).trans rfl
theorem q_16_5830 (G : Nat × (Nat → Int32)) (d : Nat) (s0 : Int32) (σ : aH) : Lq G d M_16 (14, [some (.ref 100)], [.int s0], σ) = aNar .byte (s0) (some (.inl (some (.int s0)), σ)) :=
  (aUn_eq (tkd G.1 G.2) tmi (aRun (tkd G.1 G.2) tmi tmt d) M_16 [] 1 (14, [some (.ref 100)], [.int s0], σ)).trans rfl
theorem q_16_5831 (G : Nat × (Nat → Int32)) (d : Nat)  (σ : aH) : Lq G d M_16 (6, [some (.ref 100)], [], σ) = Lq G d M_16 (14, [some (.ref 100)], [.int (0 : Int32)], σ) :=
  (aUn_eq (tkd G.1 G.2) tmi (aRun (tkd G.1 G.2) tmi tmt d) M_16 [] 3 (6, [some (.ref 100)], [], σ)).trans rfl
theorem q_16_5832 (G : Nat × (Nat → Int32)) (d : Nat)  (σ : aH) : Lq G d M_16 (0, [some (.ref 102)], [], σ) = Lq G d M_16 (3, [some (.ref 102)], [.int (1 : Int32)], σ) :=
  (aUn_eq (tkd G.1 G.2) tmi (aRun (tkd G.1 G.2) tmi tmt d) M_16 [] 1 (0, [some (.ref 102)], [], σ)).trans rfl
theorem q_16_5833 (G : Nat × (Nat → Int32)) (d : Nat) (s0 : Int32) (σ : aH) : Lq G d M_16 (3, [some (.ref 102)], [.int s0], σ) = if s0 = 0 then Lq G d M_16 (13, [some (.ref 102)], [], σ) else Lq G d M_16 (6, [some (.ref 102)], [], σ) :=
  (aUn_eq (tkd G.1 G.2) tmi (aRun (tkd G.1 G.2) tmi tmt d) M_16 [] 1 (3, [some (.ref 102)], [.int s0], σ)).trans rfl
theorem q_16_5834 (G : Nat × (Nat → Int32)) (d : Nat)  (σ : aH) : Lq G d M_16 (13, [some (.ref 102)], [], σ) = Lq G d M_16 (14, [some (.ref 102)], [.int (1 : Int32)], σ) :=
  (aUn_eq (tkd G.1 G.2) tmi (aRun (tkd G.1 G.2) tmi tmt d) M_16 [] 1 (13, [some (.ref 102)], [], σ)).trans rfl
theorem q_16_5835 (G : Nat × (Nat → Int32)) (d : Nat) (s0 : Int32) (σ : aH) : Lq G d M_16 (14, [some (.ref 102)], [.int s0], σ) = aNar .byte (s0) (some (.inl (some (.int s0)), σ)) :=
  (aUn_eq (tkd G.1 G.2) tmi (aRun (tkd G.1 G.2) tmi tmt d) M_16 [] 1 (14, [some (.ref 102)], [.int s0], σ)).trans rfl
theorem q_16_5836 (G : Nat × (Nat → Int32)) (d : Nat)  (σ : aH) : Lq G d M_16 (6, [some (.ref 102)], [], σ) = Lq G d M_16 (14, [some (.ref 102)], [.int (0 : Int32)], σ) :=
  (aUn_eq (tkd G.1 G.2) tmi (aRun (tkd G.1 G.2) tmi tmt d) M_16 [] 3 (6, [some (.ref 102)], [], σ)).trans rfl
theorem q_16_5837 (G : Nat × (Nat → Int32)) (d : Nat)  (σ : aH) : Lq G d M_16 (0, [some (.ref 104)], [], σ) = Lq G d M_16 (3, [some (.ref 104)], [.int (1 : Int32)], σ) :=
  (aUn_eq (tkd G.1 G.2) tmi (aRun (tkd G.1 G.2) tmi tmt d) M_16 [] 1 (0, [some (.ref 104)], [], σ)).trans rfl
theorem q_16_5838 (G : Nat × (Nat → Int32)) (d : Nat) (s0 : Int32) (σ : aH) : Lq G d M_16 (3, [some (.ref 104)], [.int s0], σ) = if s0 = 0 then Lq G d M_16 (13, [some (.ref 104)], [], σ) else Lq G d M_16 (6, [some (.ref 104)], [], σ) :=
  (aUn_eq (tkd G.1 G.2) tmi (aRun (tkd G.1 G.2) tmi tmt d) M_16 [] 1 (3, [some (.ref 104)], [.int s0], σ)).trans rfl
theorem q_16_5839 (G : Nat × (Nat → Int32)) (d : Nat)  (σ : aH) : Lq G d M_16 (13, [some (.ref 104)], [], σ) = Lq G d M_16 (14, [some (.ref 104)], [.int (1 : Int32)], σ) :=
  (aUn_eq (tkd G.1 G.2) tmi (aRun (tkd G.1 G.2) tmi tmt d) M_16 [] 1 (13, [some (.ref 104)], [], σ)).trans rfl
theorem q_16_5840 (G : Nat × (Nat → Int32)) (d : Nat) (s0 : Int32) (σ : aH) : Lq G d M_16 (14, [some (.ref 104)], [.int s0], σ) = aNar .byte (s0) (some (.inl (some (.int s0)), σ)) :=
  (aUn_eq (tkd G.1 G.2) tmi (aRun (tkd G.1 G.2) tmi tmt d) M_16 [] 1 (14, [some (.ref 104)], [.int s0], σ)).trans rfl
theorem q_16_5841 (G : Nat × (Nat → Int32)) (d : Nat)  (σ : aH) : Lq G d M_16 (6, [some (.ref 104)], [], σ) = Lq G d M_16 (14, [some (.ref 104)], [.int (0 : Int32)], σ) :=
  (aUn_eq (tkd G.1 G.2) tmi (aRun (tkd G.1 G.2) tmi tmt d) M_16 [] 3 (6, [some (.ref 104)], [], σ)).trans rfl
theorem q_16_5842 (G : Nat × (Nat → Int32)) (d : Nat)  (σ : aH) : Lq G d M_16 (0, [some (.ref 106)], [], σ) = Lq G d M_16 (3, [some (.ref 106)], [.int (1 : Int32)], σ) :=
  (aUn_eq (tkd G.1 G.2) tmi (aRun (tkd G.1 G.2) tmi tmt d) M_16 [] 1 (0, [some (.ref 106)], [], σ)).trans rfl
theorem q_16_5843 (G : Nat × (Nat → Int32)) (d : Nat) (s0 : Int32) (σ : aH) : Lq G d M_16 (3, [some (.ref 106)], [.int s0], σ) = if s0 = 0 then Lq G d M_16 (13, [some (.ref 106)], [], σ) else Lq G d M_16 (6, [some (.ref 106)], [], σ) :=
  (aUn_eq (tkd G.1 G.2) tmi (aRun (tkd G.1 G.2) tmi tmt d) M_16 [] 1 (3, [some (.ref 106)], [.int s0], σ)).trans rfl
theorem q_16_5844 (G : Nat × (Nat → Int32)) (d : Nat)  (σ : aH) : Lq G d M_16 (13, [some (.ref 106)], [], σ) = Lq G d M_16 (14, [some (.ref 106)], [.int (1 : Int32)], σ) :=
  (aUn_eq (tkd G.1 G.2) tmi (aRun (tkd G.1 G.2) tmi tmt d) M_16 [] 1 (13, [some (.ref 106)], [], σ)).trans rfl
theorem q_16_5845 (G : Nat × (Nat → Int32)) (d : Nat) (s0 : Int32) (σ : aH) : Lq G d M_16 (14, [some (.ref 106)], [.int s0], σ) = aNar .byte (s0) (some (.inl (some (.int s0)), σ)) :=
  (aUn_eq (tkd G.1 G.2) tmi (aRun (tkd G.1 G.2) tmi tmt d) M_16 [] 1 (14, [some (.ref 106)], [.int s0], σ)).trans rfl
theorem q_16_5846 (G : Nat × (Nat → Int32)) (d : Nat)  (σ : aH) : Lq G d M_16 (6, [some (.ref 106)], [], σ) = Lq G d M_16 (14, [some (.ref 106)], [.int (0 : Int32)], σ) :=
  (aUn_eq (tkd G.1 G.2) tmi (aRun (tkd G.1 G.2) tmi tmt d) M_16 [] 3 (6, [some (.ref 106)], [], σ)).trans rfl
theorem q_16_5847 (G : Nat × (Nat → Int32)) (d : Nat)  (σ : aH) : Lq G d M_16 (0, [some (.ref 108)], [], σ) = Lq G d M_16 (3, [some (.ref 108)], [.int (1 : Int32)], σ) :=
  (aUn_eq (tkd G.1 G.2) tmi (aRun (tkd G.1 G.2) tmi tmt d) M_16 [] 1 (0, [some (.ref 108)], [], σ)).trans rfl
theorem q_16_5848 (G : Nat × (Nat → Int32)) (d : Nat) (s0 : Int32) (σ : aH) : Lq G d M_16 (3, [some (.ref 108)], [.int s0], σ) = if s0 = 0 then Lq G d M_16 (13, [some (.ref 108)], [], σ) else Lq G d M_16 (6, [some (.ref 108)], [], σ) :=
  (aUn_eq (tkd G.1 G.2) tmi (aRun (tkd G.1 G.2) tmi tmt d) M_16 [] 1 (3, [some (.ref 108)], [.int s0], σ)).trans rfl
theorem q_16_5849 (G : Nat × (Nat → Int32)) (d : Nat)  (σ : aH) : Lq G d M_16 (13, [some (.ref 108)], [], σ) = Lq G d M_16 (14, [some (.ref 108)], [.int (1 : Int32)], σ) :=
  (aUn_eq (tkd G.1 G.2) tmi (aRun (tkd G.1 G.2) tmi tmt d) M_16 [] 1 (13, [some (.ref 108)], [], σ)).trans rfl
theorem q_16_5850 (G : Nat × (Nat → Int32)) (d : Nat) (s0 : Int32) (σ : aH) : Lq G d M_16 (14, [some (.ref 108)], [.int s0], σ) = aNar .byte (s0) (some (.inl (some (.int s0)), σ)) :=
  (aUn_eq (tkd G.1 G.2) tmi (aRun (tkd G.1 G.2) tmi tmt d) M_16 [] 1 (14, [some (.ref 108)], [.int s0], σ)).trans rfl
theorem q_16_5851 (G : Nat × (Nat → Int32)) (d : Nat)  (σ : aH) : Lq G d M_16 (6, [some (.ref 108)], [], σ) = Lq G d M_16 (14, [some (.ref 108)], [.int (0 : Int32)], σ) :=
  (aUn_eq (tkd G.1 G.2) tmi (aRun (tkd G.1 G.2) tmi tmt d) M_16 [] 3 (6, [some (.ref 108)], [], σ)).trans rfl
theorem q_16_5852 (G : Nat × (Nat → Int32)) (d : Nat)  (σ : aH) : Lq G d M_16 (0, [some (.ref 110)], [], σ) = Lq G d M_16 (3, [some (.ref 110)], [.int (1 : Int32)], σ) :=
  (aUn_eq (tkd G.1 G.2) tmi (aRun (tkd G.1 G.2) tmi tmt d) M_16 [] 1 (0, [some (.ref 110)], [], σ)).trans rfl
theorem q_16_5853 (G : Nat × (Nat → Int32)) (d : Nat) (s0 : Int32) (σ : aH) : Lq G d M_16 (3, [some (.ref 110)], [.int s0], σ) = if s0 = 0 then Lq G d M_16 (13, [some (.ref 110)], [], σ) else Lq G d M_16 (6, [some (.ref 110)], [], σ) :=
  (aUn_eq (tkd G.1 G.2) tmi (aRun (tkd G.1 G.2) tmi tmt d) M_16 [] 1 (3, [some (.ref 110)], [.int s0], σ)).trans rfl
theorem q_16_5854 (G : Nat × (Nat → Int32)) (d : Nat)  (σ : aH) : Lq G d M_16 (13, [some (.ref 110)], [], σ) = Lq G d M_16 (14, [some (.ref 110)], [.int (1 : Int32)], σ) :=
  (aUn_eq (tkd G.1 G.2) tmi (aRun (tkd G.1 G.2) tmi tmt d) M_16 [] 1 (13, [some (.ref 110)], [], σ)).trans rfl
theorem q_16_5855 (G : Nat × (Nat → Int32)) (d : Nat) (s0 : Int32) (σ : aH) : Lq G d M_16 (14, [some (.ref 110)], [.int s0], σ) = aNar .byte (s0) (some (.inl (some (.int s0)), σ)) :=
  (aUn_eq (tkd G.1 G.2) tmi (aRun (tkd G.1 G.2) tmi tmt d) M_16 [] 1 (14, [some (.ref 110)], [.int s0], σ)).trans rfl
theorem q_16_5856 (G : Nat × (Nat → Int32)) (d : Nat)  (σ : aH) : Lq G d M_16 (6, [some (.ref 110)], [], σ) = Lq G d M_16 (14, [some (.ref 110)], [.int (0 : Int32)], σ) :=
  (aUn_eq (tkd G.1 G.2) tmi (aRun (tkd G.1 G.2) tmi tmt d) M_16 [] 3 (6, [some (.ref 110)], [], σ)).trans rfl
theorem q_16_5857 (G : Nat × (Nat → Int32)) (d : Nat)  (σ : aH) : Lq G d M_16 (0, [some (.ref 112)], [], σ) = Lq G d M_16 (3, [some (.ref 112)], [.int (1 : Int32)], σ) :=
  (aUn_eq (tkd G.1 G.2) tmi (aRun (tkd G.1 G.2) tmi tmt d) M_16 [] 1 (0, [some (.ref 112)], [], σ)).trans rfl
theorem q_16_5858 (G : Nat × (Nat → Int32)) (d : Nat) (s0 : Int32) (σ : aH) : Lq G d M_16 (3, [some (.ref 112)], [.int s0], σ) = if s0 = 0 then Lq G d M_16 (13, [some (.ref 112)], [], σ) else Lq G d M_16 (6, [some (.ref 112)], [], σ) :=
  (aUn_eq (tkd G.1 G.2) tmi (aRun (tkd G.1 G.2) tmi tmt d) M_16 [] 1 (3, [some (.ref 112)], [.int s0], σ)).trans rfl
theorem q_16_5859 (G : Nat × (Nat → Int32)) (d : Nat)  (σ : aH) : Lq G d M_16 (13, [some (.ref 112)], [], σ) = Lq G d M_16 (14, [some (.ref 112)], [.int (1 : Int32)], σ) :=
  (aUn_eq (tkd G.1 G.2) tmi (aRun (tkd G.1 G.2) tmi tmt d) M_16 [] 1 (13, [some (.ref 112)], [], σ)).trans rfl
theorem q_16_5860 (G : Nat × (Nat → Int32)) (d : Nat) (s0 : Int32) (σ : aH) : Lq G d M_16 (14, [some (.ref 112)], [.int s0], σ) = aNar .byte (s0) (some (.inl (some (.int s0)), σ)) :=
  (aUn_eq (tkd G.1 G.2) tmi (aRun (tkd G.1 G.2) tmi tmt d) M_16 [] 1 (14, [some (.ref 112)], [.int s0], σ)).trans rfl
theorem q_16_5861 (G : Nat × (Nat → Int32)) (d : Nat)  (σ : aH) : Lq G d M_16 (6, [some (.ref 112)], [], σ) = Lq G d M_16 (14, [some (.ref 112)], [.int (0 : Int32)], σ) :=
  (aUn_eq (tkd G.1 G.2) tmi (aRun (tkd G.1 G.2) tmi tmt d) M_16 [] 3 (6, [some (.ref 112)], [], σ)).trans rfl
theorem q_16_5862 (G : Nat × (Nat → Int32)) (d : Nat)  (σ : aH) : Lq G d M_16 (0, [some (.ref 114)], [], σ) = Lq G d M_16 (3, [some (.ref 114)], [.int (1 : Int32)], σ) :=
  (aUn_eq (tkd G.1 G.2) tmi (aRun (tkd G.1 G.2) tmi tmt d) M_16 [] 1 (0, [some (.ref 114)], [], σ)).trans rfl
theorem q_16_5863 (G : Nat × (Nat → Int32)) (d : Nat) (s0 : Int32) (σ : aH) : Lq G d M_16 (3, [some (.ref 114)], [.int s0], σ) = if s0 = 0 then Lq G d M_16 (13, [some (.ref 114)], [], σ) else Lq G d M_16 (6, [some (.ref 114)], [], σ) :=
  (aUn_eq (tkd G.1 G.2) tmi (aRun (tkd G.1 G.2) tmi tmt d) M_16 [] 1 (3, [some (.ref 114)], [.int s0], σ)).trans rfl
theorem q_16_5864 (G : Nat × (Nat → Int32)) (d : Nat)  (σ : aH) : Lq G d M_16 (13, [some (.ref 114)], [], σ) = Lq G d M_16 (14, [some (.ref 114)], [.int (1 : Int32)], σ) :=
  (aUn_eq (tkd G.1 G.2) tmi (aRun (tkd G.1 G.2) tmi tmt d) M_16 [] 1 (13, [some (.ref 114)], [], σ)).trans rfl
theorem q_16_5865 (G : Nat × (Nat → Int32)) (d : Nat) (s0 : Int32) (σ : aH) : Lq G d M_16 (14, [some (.ref 114)], [.int s0], σ) = aNar .byte (s0) (some (.inl (some (.int s0)), σ)) :=
  (aUn_eq (tkd G.1 G.2) tmi (aRun (tkd G.1 G.2) tmi tmt d) M_16 [] 1 (14, [some (.ref 114)], [.int s0], σ)).trans rfl
theorem q_16_5866 (G : Nat × (Nat → Int32)) (d : Nat)  (σ : aH) : Lq G d M_16 (6, [some (.ref 114)], [], σ) = Lq G d M_16 (14, [some (.ref 114)], [.int (0 : Int32)], σ) :=
  (aUn_eq (tkd G.1 G.2) tmi (aRun (tkd G.1 G.2) tmi tmt d) M_16 [] 3 (6, [some (.ref 114)], [], σ)).trans rfl
theorem q_16_5867 (G : Nat × (Nat → Int32)) (d : Nat)  (σ : aH) : Lq G d M_16 (0, [some (.ref 116)], [], σ) = Lq G d M_16 (3, [some (.ref 116)], [.int (1 : Int32)], σ) :=
  (aUn_eq (tkd G.1 G.2) tmi (aRun (tkd G.1 G.2) tmi tmt d) M_16 [] 1 (0, [some (.ref 116)], [], σ)).trans rfl
theorem q_16_5868 (G : Nat × (Nat → Int32)) (d : Nat) (s0 : Int32) (σ : aH) : Lq G d M_16 (3, [some (.ref 116)], [.int s0], σ) = if s0 = 0 then Lq G d M_16 (13, [some (.ref 116)], [], σ) else Lq G d M_16 (6, [some (.ref 116)], [], σ) :=
  (aUn_eq (tkd G.1 G.2) tmi (aRun (tkd G.1 G.2) tmi tmt d) M_16 [] 1 (3, [some (.ref 116)], [.int s0], σ)).trans rfl
theorem q_16_5869 (G : Nat × (Nat → Int32)) (d : Nat)  (σ : aH) : Lq G d M_16 (13, [some (.ref 116)], [], σ) = Lq G d M_16 (14, [some (.ref 116)], [.int (1 : Int32)], σ) :=
  (aUn_eq (tkd G.1 G.2) tmi (aRun (tkd G.1 G.2) tmi tmt d) M_16 [] 1 (13, [some (.ref 116)], [], σ)).trans rfl
theorem q_16_5870 (G : Nat × (Nat → Int32)) (d : Nat) (s0 : Int32) (σ : aH) : Lq G d M_16 (14, [some (.ref 116)], [.int s0], σ) = aNar .byte (s0) (some (.inl (some (.int s0)), σ)) :=
  (aUn_eq (tkd G.1 G.2) tmi (aRun (tkd G.1 G.2) tmi tmt d) M_16 [] 1 (14, [some (.ref 116)], [.int s0], σ)).trans rfl
theorem q_16_5871 (G : Nat × (Nat → Int32)) (d : Nat)  (σ : aH) : Lq G d M_16 (6, [some (.ref 116)], [], σ) = Lq G d M_16 (14, [some (.ref 116)], [.int (0 : Int32)], σ) :=
  (aUn_eq (tkd G.1 G.2) tmi (aRun (tkd G.1 G.2) tmi tmt d) M_16 [] 3 (6, [some (.ref 116)], [], σ)).trans rfl
theorem q_16_5872 (G : Nat × (Nat → Int32)) (d : Nat)  (σ : aH) : Lq G d M_16 (0, [some (.ref 118)], [], σ) = Lq G d M_16 (3, [some (.ref 118)], [.int (1 : Int32)], σ) :=
  (aUn_eq (tkd G.1 G.2) tmi (aRun (tkd G.1 G.2) tmi tmt d) M_16 [] 1 (0, [some (.ref 118)], [], σ)).trans rfl
theorem q_16_5873 (G : Nat × (Nat → Int32)) (d : Nat) (s0 : Int32) (σ : aH) : Lq G d M_16 (3, [some (.ref 118)], [.int s0], σ) = if s0 = 0 then Lq G d M_16 (13, [some (.ref 118)], [], σ) else Lq G d M_16 (6, [some (.ref 118)], [], σ) :=
  (aUn_eq (tkd G.1 G.2) tmi (aRun (tkd G.1 G.2) tmi tmt d) M_16 [] 1 (3, [some (.ref 118)], [.int s0], σ)).trans rfl
theorem q_16_5874 (G : Nat × (Nat → Int32)) (d : Nat)  (σ : aH) : Lq G d M_16 (13, [some (.ref 118)], [], σ) = Lq G d M_16 (14, [some (.ref 118)], [.int (1 : Int32)], σ) :=
  (aUn_eq (tkd G.1 G.2) tmi (aRun (tkd G.1 G.2) tmi tmt d) M_16 [] 1 (13, [some (.ref 118)], [], σ)).trans rfl
theorem q_16_5875 (G : Nat × (Nat → Int32)) (d : Nat) (s0 : Int32) (σ : aH) : Lq G d M_16 (14, [some (.ref 118)], [.int s0], σ) = aNar .byte (s0) (some (.inl (some (.int s0)), σ)) :=
  (aUn_eq (tkd G.1 G.2) tmi (aRun (tkd G.1 G.2) tmi tmt d) M_16 [] 1 (14, [some (.ref 118)], [.int s0], σ)).trans rfl
theorem q_16_5876 (G : Nat × (Nat → Int32)) (d : Nat)  (σ : aH) : Lq G d M_16 (6, [some (.ref 118)], [], σ) = Lq G d M_16 (14, [some (.ref 118)], [.int (0 : Int32)], σ) :=
  (aUn_eq (tkd G.1 G.2) tmi (aRun (tkd G.1 G.2) tmi tmt d) M_16 [] 3 (6, [some (.ref 118)], [], σ)).trans rfl
theorem q_16_5877 (G : Nat × (Nat → Int32)) (d : Nat)  (σ : aH) : Lq G d M_16 (0, [some (.ref 120)], [], σ) = Lq G d M_16 (3, [some (.ref 120)], [.int (1 : Int32)], σ) :=
  (aUn_eq (tkd G.1 G.2) tmi (aRun (tkd G.1 G.2) tmi tmt d) M_16 [] 1 (0, [some (.ref 120)], [], σ)).trans rfl
theorem q_16_5878 (G : Nat × (Nat → Int32)) (d : Nat) (s0 : Int32) (σ : aH) : Lq G d M_16 (3, [some (.ref 120)], [.int s0], σ) = if s0 = 0 then Lq G d M_16 (13, [some (.ref 120)], [], σ) else Lq G d M_16 (6, [some (.ref 120)], [], σ) :=
  (aUn_eq (tkd G.1 G.2) tmi (aRun (tkd G.1 G.2) tmi tmt d) M_16 [] 1 (3, [some (.ref 120)], [.int s0], σ)).trans rfl
theorem q_16_5879 (G : Nat × (Nat → Int32)) (d : Nat)  (σ : aH) : Lq G d M_16 (13, [some (.ref 120)], [], σ) = Lq G d M_16 (14, [some (.ref 120)], [.int (1 : Int32)], σ) :=
  (aUn_eq (tkd G.1 G.2) tmi (aRun (tkd G.1 G.2) tmi tmt d) M_16 [] 1 (13, [some (.ref 120)], [], σ)).trans rfl
theorem q_16_5880 (G : Nat × (Nat → Int32)) (d : Nat) (s0 : Int32) (σ : aH) : Lq G d M_16 (14, [some (.ref 120)], [.int s0], σ) = aNar .byte (s0) (some (.inl (some (.int s0)), σ)) :=
  (aUn_eq (tkd G.1 G.2) tmi (aRun (tkd G.1 G.2) tmi tmt d) M_16 [] 1 (14, [some (.ref 120)], [.int s0], σ)).trans rfl
theorem q_16_5881 (G : Nat × (Nat → Int32)) (d : Nat)  (σ : aH) : Lq G d M_16 (6, [some (.ref 120)], [], σ) = Lq G d M_16 (14, [some (.ref 120)], [.int (0 : Int32)], σ) :=
  (aUn_eq (tkd G.1 G.2) tmi (aRun (tkd G.1 G.2) tmi tmt d) M_16 [] 3 (6, [some (.ref 120)], [], σ)).trans rfl
theorem q_16_5882 (G : Nat × (Nat → Int32)) (d : Nat)  (σ : aH) : Lq G d M_16 (0, [some (.ref 122)], [], σ) = Lq G d M_16 (3, [some (.ref 122)], [.int (1 : Int32)], σ) :=
  (aUn_eq (tkd G.1 G.2) tmi (aRun (tkd G.1 G.2) tmi tmt d) M_16 [] 1 (0, [some (.ref 122)], [], σ)).trans rfl
theorem q_16_5883 (G : Nat × (Nat → Int32)) (d : Nat) (s0 : Int32) (σ : aH) : Lq G d M_16 (3, [some (.ref 122)], [.int s0], σ) = if s0 = 0 then Lq G d M_16 (13, [some (.ref 122)], [], σ) else Lq G d M_16 (6, [some (.ref 122)], [], σ) :=
  (aUn_eq (tkd G.1 G.2) tmi (aRun (tkd G.1 G.2) tmi tmt d) M_16 [] 1 (3, [some (.ref 122)], [.int s0], σ)).trans rfl
theorem q_16_5884 (G : Nat × (Nat → Int32)) (d : Nat)  (σ : aH) : Lq G d M_16 (13, [some (.ref 122)], [], σ) = Lq G d M_16 (14, [some (.ref 122)], [.int (1 : Int32)], σ) :=
  (aUn_eq (tkd G.1 G.2) tmi (aRun (tkd G.1 G.2) tmi tmt d) M_16 [] 1 (13, [some (.ref 122)], [], σ)).trans rfl
theorem q_16_5885 (G : Nat × (Nat → Int32)) (d : Nat) (s0 : Int32) (σ : aH) : Lq G d M_16 (14, [some (.ref 122)], [.int s0], σ) = aNar .byte (s0) (some (.inl (some (.int s0)), σ)) :=
  (aUn_eq (tkd G.1 G.2) tmi (aRun (tkd G.1 G.2) tmi tmt d) M_16 [] 1 (14, [some (.ref 122)], [.int s0], σ)).trans rfl
theorem q_16_5886 (G : Nat × (Nat → Int32)) (d : Nat)  (σ : aH) : Lq G d M_16 (6, [some (.ref 122)], [], σ) = Lq G d M_16 (14, [some (.ref 122)], [.int (0 : Int32)], σ) :=
  (aUn_eq (tkd G.1 G.2) tmi (aRun (tkd G.1 G.2) tmi tmt d) M_16 [] 3 (6, [some (.ref 122)], [], σ)).trans rfl
theorem q_16_5887 (G : Nat × (Nat → Int32)) (d : Nat)  (σ : aH) : Lq G d M_16 (0, [some (.ref 124)], [], σ) = Lq G d M_16 (3, [some (.ref 124)], [.int (1 : Int32)], σ) :=
  (aUn_eq (tkd G.1 G.2) tmi (aRun (tkd G.1 G.2) tmi tmt d) M_16 [] 1 (0, [some (.ref 124)], [], σ)).trans rfl
theorem q_16_5888 (G : Nat × (Nat → Int32)) (d : Nat) (s0 : Int32) (σ : aH) : Lq G d M_16 (3, [some (.ref 124)], [.int s0], σ) = if s0 = 0 then Lq G d M_16 (13, [some (.ref 124)], [], σ) else Lq G d M_16 (6, [some (.ref 124)], [], σ) :=
  (aUn_eq (tkd G.1 G.2) tmi (aRun (tkd G.1 G.2) tmi tmt d) M_16 [] 1 (3, [some (.ref 124)], [.int s0], σ)).trans rfl
theorem q_16_5889 (G : Nat × (Nat → Int32)) (d : Nat)  (σ : aH) : Lq G d M_16 (13, [some (.ref 124)], [], σ) = Lq G d M_16 (14, [some (.ref 124)], [.int (1 : Int32)], σ) :=
  (aUn_eq (tkd G.1 G.2) tmi (aRun (tkd G.1 G.2) tmi tmt d) M_16 [] 1 (13, [some (.ref 124)], [], σ)).trans rfl
theorem q_16_5890 (G : Nat × (Nat → Int32)) (d : Nat) (s0 : Int32) (σ : aH) : Lq G d M_16 (14, [some (.ref 124)], [.int s0], σ) = aNar .byte (s0) (some (.inl (some (.int s0)), σ)) :=
  (aUn_eq (tkd G.1 G.2) tmi (aRun (tkd G.1 G.2) tmi tmt d) M_16 [] 1 (14, [some (.ref 124)], [.int s0], σ)).trans rfl
theorem q_16_5891 (G : Nat × (Nat → Int32)) (d : Nat)  (σ : aH) : Lq G d M_16 (6, [some (.ref 124)], [], σ) = Lq G d M_16 (14, [some (.ref 124)], [.int (0 : Int32)], σ) :=
  (aUn_eq (tkd G.1 G.2) tmi (aRun (tkd G.1 G.2) tmi tmt d) M_16 [] 3 (6, [some (.ref 124)], [], σ)).trans rfl
theorem q_16_5892 (G : Nat × (Nat → Int32)) (d : Nat)  (σ : aH) : Lq G d M_16 (0, [some (.ref 126)], [], σ) = Lq G d M_16 (3, [some (.ref 126)], [.int (1 : Int32)], σ) :=
  (aUn_eq (tkd G.1 G.2) tmi (aRun (tkd G.1 G.2) tmi tmt d) M_16 [] 1 (0, [some (.ref 126)], [], σ)).trans rfl
theorem q_16_5893 (G : Nat × (Nat → Int32)) (d : Nat) (s0 : Int32) (σ : aH) : Lq G d M_16 (3, [some (.ref 126)], [.int s0], σ) = if s0 = 0 then Lq G d M_16 (13, [some (.ref 126)], [], σ) else Lq G d M_16 (6, [some (.ref 126)], [], σ) :=
  (aUn_eq (tkd G.1 G.2) tmi (aRun (tkd G.1 G.2) tmi tmt d) M_16 [] 1 (3, [some (.ref 126)], [.int s0], σ)).trans rfl
theorem q_16_5894 (G : Nat × (Nat → Int32)) (d : Nat)  (σ : aH) : Lq G d M_16 (13, [some (.ref 126)], [], σ) = Lq G d M_16 (14, [some (.ref 126)], [.int (1 : Int32)], σ) :=
  (aUn_eq (tkd G.1 G.2) tmi (aRun (tkd G.1 G.2) tmi tmt d) M_16 [] 1 (13, [some (.ref 126)], [], σ)).trans rfl
theorem q_16_5895 (G : Nat × (Nat → Int32)) (d : Nat) (s0 : Int32) (σ : aH) : Lq G d M_16 (14, [some (.ref 126)], [.int s0], σ) = aNar .byte (s0) (some (.inl (some (.int s0)), σ)) :=
  (aUn_eq (tkd G.1 G.2) tmi (aRun (tkd G.1 G.2) tmi tmt d) M_16 [] 1 (14, [some (.ref 126)], [.int s0], σ)).trans rfl
theorem q_16_5896 (G : Nat × (Nat → Int32)) (d : Nat)  (σ : aH) : Lq G d M_16 (6, [some (.ref 126)], [], σ) = Lq G d M_16 (14, [some (.ref 126)], [.int (0 : Int32)], σ) :=
  (aUn_eq (tkd G.1 G.2) tmi (aRun (tkd G.1 G.2) tmi tmt d) M_16 [] 3 (6, [some (.ref 126)], [], σ)).trans rfl
theorem q_16_5897 (G : Nat × (Nat → Int32)) (d : Nat)  (σ : aH) : Lq G d M_16 (0, [some (.ref 128)], [], σ) = Lq G d M_16 (3, [some (.ref 128)], [.int (1 : Int32)], σ) :=
  (aUn_eq (tkd G.1 G.2) tmi (aRun (tkd G.1 G.2) tmi tmt d) M_16 [] 1 (0, [some (.ref 128)], [], σ)).trans rfl
theorem q_16_5898 (G : Nat × (Nat → Int32)) (d : Nat) (s0 : Int32) (σ : aH) : Lq G d M_16 (3, [some (.ref 128)], [.int s0], σ) = if s0 = 0 then Lq G d M_16 (13, [some (.ref 128)], [], σ) else Lq G d M_16 (6, [some (.ref 128)], [], σ) :=
  (aUn_eq (tkd G.1 G.2) tmi (aRun (tkd G.1 G.2) tmi tmt d) M_16 [] 1 (3, [some (.ref 128)], [.int s0], σ)).trans rfl
theorem q_16_5899 (G : Nat × (Nat → Int32)) (d : Nat)  (σ : aH) : Lq G d M_16 (13, [some (.ref 128)], [], σ) = Lq G d M_16 (14, [some (.ref 128)], [.int (1 : Int32)], σ) :=
  (aUn_eq (tkd G.1 G.2) tmi (aRun (tkd G.1 G.2) tmi tmt d) M_16 [] 1 (13, [some (.ref 128)], [], σ)).trans rfl
theorem q_16_5900 (G : Nat × (Nat → Int32)) (d : Nat) (s0 : Int32) (σ : aH) : Lq G d M_16 (14, [some (.ref 128)], [.int s0], σ) = aNar .byte (s0) (some (.inl (some (.int s0)), σ)) :=
  (aUn_eq (tkd G.1 G.2) tmi (aRun (tkd G.1 G.2) tmi tmt d) M_16 [] 1 (14, [some (.ref 128)], [.int s0], σ)).trans rfl
theorem q_16_5901 (G : Nat × (Nat → Int32)) (d : Nat)  (σ : aH) : Lq G d M_16 (6, [some (.ref 128)], [], σ) = Lq G d M_16 (14, [some (.ref 128)], [.int (0 : Int32)], σ) :=
  (aUn_eq (tkd G.1 G.2) tmi (aRun (tkd G.1 G.2) tmi tmt d) M_16 [] 3 (6, [some (.ref 128)], [], σ)).trans rfl
theorem q_14_5902 (G : Nat × (Nat → Int32)) (d : Nat)  (σ : aH) : Lq G d M_14 (0, [some (.ref 70)], [], σ) = Lq G d M_14 (3, [some (.ref 70)], [.int (1 : Int32)], σ) :=
  (aUn_eq (tkd G.1 G.2) tmi (aRun (tkd G.1 G.2) tmi tmt d) M_14 [] 1 (0, [some (.ref 70)], [], σ)).trans rfl
theorem q_14_5903 (G : Nat × (Nat → Int32)) (d : Nat) (s0 : Int32) (σ : aH) : Lq G d M_14 (3, [some (.ref 70)], [.int s0], σ) = if s0 = 0 then Lq G d M_14 (17, [some (.ref 70)], [], σ) else Lq G d M_14 (6, [some (.ref 70)], [], σ) :=
  (aUn_eq (tkd G.1 G.2) tmi (aRun (tkd G.1 G.2) tmi tmt d) M_14 [] 1 (3, [some (.ref 70)], [.int s0], σ)).trans rfl
theorem q_14_5904 (G : Nat × (Nat → Int32)) (d : Nat)  (σ : aH) : Lq G d M_14 (17, [some (.ref 70)], [], σ) = Lq G d M_14 (18, [some (.ref 70)], [.int (0 : Int32)], σ) :=
  (aUn_eq (tkd G.1 G.2) tmi (aRun (tkd G.1 G.2) tmi tmt d) M_14 [] 1 (17, [some (.ref 70)], [], σ)).trans rfl
theorem q_14_5905 (G : Nat × (Nat → Int32)) (d : Nat) (s0 : Int32) (σ : aH) : Lq G d M_14 (18, [some (.ref 70)], [.int s0], σ) = aNar .boolean (s0) (some (.inl (some (.int s0)), σ)) :=
  (aUn_eq (tkd G.1 G.2) tmi (aRun (tkd G.1 G.2) tmi tmt d) M_14 [] 1 (18, [some (.ref 70)], [.int s0], σ)).trans rfl
theorem q_14_5906 (G : Nat × (Nat → Int32)) (d : Nat)  (σ : aH) : Lq G d M_14 (6, [some (.ref 70)], [], σ) = Lq G d M_14 (10, [some (.ref 70)], [.int (0 : Int32)], σ) :=
  (aUn_eq (tkd G.1 G.2) tmi (aRun (tkd G.1 G.2) tmi tmt d) M_14 [] 2 (6, [some (.ref 70)], [], σ)).trans rfl
theorem q_14_5907 (G : Nat × (Nat → Int32)) (d : Nat) (s0 : Int32) (σ : aH) : Lq G d M_14 (10, [some (.ref 70)], [.int s0], σ) = if s0 = 0 then Lq G d M_14 (13, [some (.ref 70)], [], σ) else Lq G d M_14 (17, [some (.ref 70)], [], σ) :=
  (aUn_eq (tkd G.1 G.2) tmi (aRun (tkd G.1 G.2) tmi tmt d) M_14 [] 1 (10, [some (.ref 70)], [.int s0], σ)).trans rfl
theorem q_14_5908 (G : Nat × (Nat → Int32)) (d : Nat)  (σ : aH) : Lq G d M_14 (13, [some (.ref 70)], [], σ) = Lq G d M_14 (18, [some (.ref 70)], [.int (1 : Int32)], σ) :=
  (aUn_eq (tkd G.1 G.2) tmi (aRun (tkd G.1 G.2) tmi tmt d) M_14 [] 2 (13, [some (.ref 70)], [], σ)).trans rfl
theorem q_14_5909 (G : Nat × (Nat → Int32)) (d : Nat)  (σ : aH) : Lq G d M_14 (0, [some (.ref 72)], [], σ) = Lq G d M_14 (3, [some (.ref 72)], [.int (1 : Int32)], σ) :=
  (aUn_eq (tkd G.1 G.2) tmi (aRun (tkd G.1 G.2) tmi tmt d) M_14 [] 1 (0, [some (.ref 72)], [], σ)).trans rfl
theorem q_14_5910 (G : Nat × (Nat → Int32)) (d : Nat) (s0 : Int32) (σ : aH) : Lq G d M_14 (3, [some (.ref 72)], [.int s0], σ) = if s0 = 0 then Lq G d M_14 (17, [some (.ref 72)], [], σ) else Lq G d M_14 (6, [some (.ref 72)], [], σ) :=
  (aUn_eq (tkd G.1 G.2) tmi (aRun (tkd G.1 G.2) tmi tmt d) M_14 [] 1 (3, [some (.ref 72)], [.int s0], σ)).trans rfl
theorem q_14_5911 (G : Nat × (Nat → Int32)) (d : Nat)  (σ : aH) : Lq G d M_14 (17, [some (.ref 72)], [], σ) = Lq G d M_14 (18, [some (.ref 72)], [.int (0 : Int32)], σ) :=
  (aUn_eq (tkd G.1 G.2) tmi (aRun (tkd G.1 G.2) tmi tmt d) M_14 [] 1 (17, [some (.ref 72)], [], σ)).trans rfl
theorem q_14_5912 (G : Nat × (Nat → Int32)) (d : Nat) (s0 : Int32) (σ : aH) : Lq G d M_14 (18, [some (.ref 72)], [.int s0], σ) = aNar .boolean (s0) (some (.inl (some (.int s0)), σ)) :=
  (aUn_eq (tkd G.1 G.2) tmi (aRun (tkd G.1 G.2) tmi tmt d) M_14 [] 1 (18, [some (.ref 72)], [.int s0], σ)).trans rfl
theorem q_14_5913 (G : Nat × (Nat → Int32)) (d : Nat)  (σ : aH) : Lq G d M_14 (6, [some (.ref 72)], [], σ) = Lq G d M_14 (10, [some (.ref 72)], [.int (0 : Int32)], σ) :=
  (aUn_eq (tkd G.1 G.2) tmi (aRun (tkd G.1 G.2) tmi tmt d) M_14 [] 2 (6, [some (.ref 72)], [], σ)).trans rfl
theorem q_14_5914 (G : Nat × (Nat → Int32)) (d : Nat) (s0 : Int32) (σ : aH) : Lq G d M_14 (10, [some (.ref 72)], [.int s0], σ) = if s0 = 0 then Lq G d M_14 (13, [some (.ref 72)], [], σ) else Lq G d M_14 (17, [some (.ref 72)], [], σ) :=
  (aUn_eq (tkd G.1 G.2) tmi (aRun (tkd G.1 G.2) tmi tmt d) M_14 [] 1 (10, [some (.ref 72)], [.int s0], σ)).trans rfl
theorem q_14_5915 (G : Nat × (Nat → Int32)) (d : Nat)  (σ : aH) : Lq G d M_14 (13, [some (.ref 72)], [], σ) = Lq G d M_14 (18, [some (.ref 72)], [.int (1 : Int32)], σ) :=
  (aUn_eq (tkd G.1 G.2) tmi (aRun (tkd G.1 G.2) tmi tmt d) M_14 [] 2 (13, [some (.ref 72)], [], σ)).trans rfl
theorem q_14_5916 (G : Nat × (Nat → Int32)) (d : Nat)  (σ : aH) : Lq G d M_14 (0, [some (.ref 74)], [], σ) = Lq G d M_14 (3, [some (.ref 74)], [.int (1 : Int32)], σ) :=
  (aUn_eq (tkd G.1 G.2) tmi (aRun (tkd G.1 G.2) tmi tmt d) M_14 [] 1 (0, [some (.ref 74)], [], σ)).trans rfl
theorem q_14_5917 (G : Nat × (Nat → Int32)) (d : Nat) (s0 : Int32) (σ : aH) : Lq G d M_14 (3, [some (.ref 74)], [.int s0], σ) = if s0 = 0 then Lq G d M_14 (17, [some (.ref 74)], [], σ) else Lq G d M_14 (6, [some (.ref 74)], [], σ) :=
  (aUn_eq (tkd G.1 G.2) tmi (aRun (tkd G.1 G.2) tmi tmt d) M_14 [] 1 (3, [some (.ref 74)], [.int s0], σ)).trans rfl
theorem q_14_5918 (G : Nat × (Nat → Int32)) (d : Nat)  (σ : aH) : Lq G d M_14 (17, [some (.ref 74)], [], σ) = Lq G d M_14 (18, [some (.ref 74)], [.int (0 : Int32)], σ) :=
  (aUn_eq (tkd G.1 G.2) tmi (aRun (tkd G.1 G.2) tmi tmt d) M_14 [] 1 (17, [some (.ref 74)], [], σ)).trans rfl
theorem q_14_5919 (G : Nat × (Nat → Int32)) (d : Nat) (s0 : Int32) (σ : aH) : Lq G d M_14 (18, [some (.ref 74)], [.int s0], σ) = aNar .boolean (s0) (some (.inl (some (.int s0)), σ)) :=
  (aUn_eq (tkd G.1 G.2) tmi (aRun (tkd G.1 G.2) tmi tmt d) M_14 [] 1 (18, [some (.ref 74)], [.int s0], σ)).trans rfl
theorem q_14_5920 (G : Nat × (Nat → Int32)) (d : Nat)  (σ : aH) : Lq G d M_14 (6, [some (.ref 74)], [], σ) = Lq G d M_14 (10, [some (.ref 74)], [.int (0 : Int32)], σ) :=
  (aUn_eq (tkd G.1 G.2) tmi (aRun (tkd G.1 G.2) tmi tmt d) M_14 [] 2 (6, [some (.ref 74)], [], σ)).trans rfl
theorem q_14_5921 (G : Nat × (Nat → Int32)) (d : Nat) (s0 : Int32) (σ : aH) : Lq G d M_14 (10, [some (.ref 74)], [.int s0], σ) = if s0 = 0 then Lq G d M_14 (13, [some (.ref 74)], [], σ) else Lq G d M_14 (17, [some (.ref 74)], [], σ) :=
  (aUn_eq (tkd G.1 G.2) tmi (aRun (tkd G.1 G.2) tmi tmt d) M_14 [] 1 (10, [some (.ref 74)], [.int s0], σ)).trans rfl
theorem q_14_5922 (G : Nat × (Nat → Int32)) (d : Nat)  (σ : aH) : Lq G d M_14 (13, [some (.ref 74)], [], σ) = Lq G d M_14 (18, [some (.ref 74)], [.int (1 : Int32)], σ) :=
  (aUn_eq (tkd G.1 G.2) tmi (aRun (tkd G.1 G.2) tmi tmt d) M_14 [] 2 (13, [some (.ref 74)], [], σ)).trans rfl
theorem q_14_5923 (G : Nat × (Nat → Int32)) (d : Nat)  (σ : aH) : Lq G d M_14 (0, [some (.ref 76)], [], σ) = Lq G d M_14 (3, [some (.ref 76)], [.int (1 : Int32)], σ) :=
  (aUn_eq (tkd G.1 G.2) tmi (aRun (tkd G.1 G.2) tmi tmt d) M_14 [] 1 (0, [some (.ref 76)], [], σ)).trans rfl
theorem q_14_5924 (G : Nat × (Nat → Int32)) (d : Nat) (s0 : Int32) (σ : aH) : Lq G d M_14 (3, [some (.ref 76)], [.int s0], σ) = if s0 = 0 then Lq G d M_14 (17, [some (.ref 76)], [], σ) else Lq G d M_14 (6, [some (.ref 76)], [], σ) :=
  (aUn_eq (tkd G.1 G.2) tmi (aRun (tkd G.1 G.2) tmi tmt d) M_14 [] 1 (3, [some (.ref 76)], [.int s0], σ)).trans rfl
theorem q_14_5925 (G : Nat × (Nat → Int32)) (d : Nat)  (σ : aH) : Lq G d M_14 (17, [some (.ref 76)], [], σ) = Lq G d M_14 (18, [some (.ref 76)], [.int (0 : Int32)], σ) :=
  (aUn_eq (tkd G.1 G.2) tmi (aRun (tkd G.1 G.2) tmi tmt d) M_14 [] 1 (17, [some (.ref 76)], [], σ)).trans rfl
theorem q_14_5926 (G : Nat × (Nat → Int32)) (d : Nat) (s0 : Int32) (σ : aH) : Lq G d M_14 (18, [some (.ref 76)], [.int s0], σ) = aNar .boolean (s0) (some (.inl (some (.int s0)), σ)) :=
  (aUn_eq (tkd G.1 G.2) tmi (aRun (tkd G.1 G.2) tmi tmt d) M_14 [] 1 (18, [some (.ref 76)], [.int s0], σ)).trans rfl
theorem q_14_5927 (G : Nat × (Nat → Int32)) (d : Nat)  (σ : aH) : Lq G d M_14 (6, [some (.ref 76)], [], σ) = Lq G d M_14 (10, [some (.ref 76)], [.int (0 : Int32)], σ) :=
  (aUn_eq (tkd G.1 G.2) tmi (aRun (tkd G.1 G.2) tmi tmt d) M_14 [] 2 (6, [some (.ref 76)], [], σ)).trans rfl
theorem q_14_5928 (G : Nat × (Nat → Int32)) (d : Nat) (s0 : Int32) (σ : aH) : Lq G d M_14 (10, [some (.ref 76)], [.int s0], σ) = if s0 = 0 then Lq G d M_14 (13, [some (.ref 76)], [], σ) else Lq G d M_14 (17, [some (.ref 76)], [], σ) :=
  (aUn_eq (tkd G.1 G.2) tmi (aRun (tkd G.1 G.2) tmi tmt d) M_14 [] 1 (10, [some (.ref 76)], [.int s0], σ)).trans rfl
theorem q_14_5929 (G : Nat × (Nat → Int32)) (d : Nat)  (σ : aH) : Lq G d M_14 (13, [some (.ref 76)], [], σ) = Lq G d M_14 (18, [some (.ref 76)], [.int (1 : Int32)], σ) :=
  (aUn_eq (tkd G.1 G.2) tmi (aRun (tkd G.1 G.2) tmi tmt d) M_14 [] 2 (13, [some (.ref 76)], [], σ)).trans rfl
theorem q_14_5930 (G : Nat × (Nat → Int32)) (d : Nat)  (σ : aH) : Lq G d M_14 (0, [some (.ref 78)], [], σ) = Lq G d M_14 (3, [some (.ref 78)], [.int (1 : Int32)], σ) :=
  (aUn_eq (tkd G.1 G.2) tmi (aRun (tkd G.1 G.2) tmi tmt d) M_14 [] 1 (0, [some (.ref 78)], [], σ)).trans rfl
theorem q_14_5931 (G : Nat × (Nat → Int32)) (d : Nat) (s0 : Int32) (σ : aH) : Lq G d M_14 (3, [some (.ref 78)], [.int s0], σ) = if s0 = 0 then Lq G d M_14 (17, [some (.ref 78)], [], σ) else Lq G d M_14 (6, [some (.ref 78)], [], σ) :=
  (aUn_eq (tkd G.1 G.2) tmi (aRun (tkd G.1 G.2) tmi tmt d) M_14 [] 1 (3, [some (.ref 78)], [.int s0], σ)).trans rfl
