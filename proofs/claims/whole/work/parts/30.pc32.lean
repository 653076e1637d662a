/-! ===== the methods in pieces, as equations (by wip/gen/emit_eqs2.py) ===== -/
set_option maxRecDepth 20000
theorem q_26_4636 (G : Nat × (Nat → Int32)) (d : Nat) (x1 : Int32) (s0 : Int32) (σ : aH) : Lq G d M_26 (21, [some (.ref 74), some (.int x1)], [.int s0, .ref 75], σ) = none :=
  (aUn_eq (tkd G.1 G.2) tmi (aRun (tkd G.1 G.2) tmi tmt d) M_26 [] 1 (21, [some (.ref 74), some (.int x1)], [.int s0, .ref 75], σ)).trans rfl
theorem q_26_4637 (G : Nat × (Nat → Int32)) (d : Nat) (x1 : Int32) (σ : aH) : Lq G d M_26 (7, [some (.ref 74), some (.int x1)], [], σ) = Lq G d M_26 (12, [some (.ref 74), some (.int x1)], [.int x1, .ref 75], σ) :=
  (aUn_eq (tkd G.1 G.2) tmi (aRun (tkd G.1 G.2) tmi tmt d) M_26 [] 3 (7, [some (.ref 74), some (.int x1)], [], σ)).trans rfl
theorem q_26_4638 (G : Nat × (Nat → Int32)) (d : Nat) (x1 : Int32) (s0 : Int32) (σ : aH) : Lq G d M_26 (12, [some (.ref 74), some (.int x1)], [.int s0, .ref 75], σ) = aCI (Rn G d 27 [.ref 75, .int s0] σ) fun v2 σ1 => Lq G d M_26 (15, [some (.ref 74), some (.int x1)], [.int v2], σ1) :=
  (aUn_eq (tkd G.1 G.2) tmi (aRun (tkd G.1 G.2) tmi tmt d) M_26 [] 1 (12, [some (.ref 74), some (.int x1)], [.int s0, .ref 75], σ)).trans rfl
theorem q_26_4639 (G : Nat × (Nat → Int32)) (d : Nat) (x1 : Int32) (s0 : Int32) (σ : aH) : Lq G d M_26 (15, [some (.ref 74), some (.int x1)], [.int s0], σ) = aNar .char (s0) (some (.inl (some (.int s0)), σ)) :=
  (aUn_eq (tkd G.1 G.2) tmi (aRun (tkd G.1 G.2) tmi tmt d) M_26 [] 1 (15, [some (.ref 74), some (.int x1)], [.int s0], σ)).trans rfl
theorem q_26_4640 (G : Nat × (Nat → Int32)) (d : Nat) (x1 : Int32) (σ : aH) : Lq G d M_26 (0, [some (.ref 76), some (.int x1)], [], σ) = Lq G d M_26 (1, [some (.ref 76), some (.int x1)], [.ref 76], σ) :=
  (aUn_eq (tkd G.1 G.2) tmi (aRun (tkd G.1 G.2) tmi tmt d) M_26 [] 1 (0, [some (.ref 76), some (.int x1)], [], σ)).trans rfl
theorem q_26_4641 (G : Nat × (Nat → Int32)) (d : Nat) (x1 : Int32) (σ : aH) : Lq G d M_26 (1, [some (.ref 76), some (.int x1)], [.ref 76], σ) = aCI (Rn G d 14 [.ref 76] σ) fun v2 σ1 => Lq G d M_26 (4, [some (.ref 76), some (.int x1)], [.int v2], σ1) :=
  (aUn_eq (tkd G.1 G.2) tmi (aRun (tkd G.1 G.2) tmi tmt d) M_26 [] 1 (1, [some (.ref 76), some (.int x1)], [.ref 76], σ)).trans rfl
theorem q_26_4642 (G : Nat × (Nat → Int32)) (d : Nat) (x1 : Int32) (s0 : Int32) (σ : aH) : Lq G d M_26 (4, [some (.ref 76), some (.int x1)], [.int s0], σ) = if s0 = 0 then Lq G d M_26 (16, [some (.ref 76), some (.int x1)], [], σ) else Lq G d M_26 (7, [some (.ref 76), some (.int x1)], [], σ) :=
  (aUn_eq (tkd G.1 G.2) tmi (aRun (tkd G.1 G.2) tmi tmt d) M_26 [] 1 (4, [some (.ref 76), some (.int x1)], [.int s0], σ)).trans rfl
theorem q_26_4643 (G : Nat × (Nat → Int32)) (d : Nat) (x1 : Int32) (σ : aH) : Lq G d M_26 (16, [some (.ref 76), some (.int x1)], [], σ) = Lq G d M_26 (21, [some (.ref 76), some (.int x1)], [.int x1, .ref 77], σ) :=
  (aUn_eq (tkd G.1 G.2) tmi (aRun (tkd G.1 G.2) tmi tmt d) M_26 [] 3 (16, [some (.ref 76), some (.int x1)], [], σ)).trans rfl
theorem q_26_4644 (G : Nat × (Nat → Int32)) (d : Nat) (x1 : Int32) (s0 : Int32) (σ : aH) : Lq G d M_26 (21, [some (.ref 76), some (.int x1)], [.int s0, .ref 77], σ) = none :=
  (aUn_eq (tkd G.1 G.2) tmi (aRun (tkd G.1 G.2) tmi tmt d) M_26 [] 1 (21, [some (.ref 76), some (.int x1)], [.int s0, .ref 77], σ)).trans rfl
theorem q_26_4645 (G : Nat × (Nat → Int32)) (d : Nat) (x1 : Int32) (σ : aH) : Lq G d M_26 (7, [some (.ref 76), some (.int x1)], [], σ) = Lq G d M_26 (12, [some (.ref 76), some (.int x1)], [.int x1, .ref 77], σ) :=
  (aUn_eq (tkd G.1 G.2) tmi (aRun (tkd G.1 G.2) tmi tmt d) M_26 [] 3 (7, [some (.ref 76), some (.int x1)], [], σ)).trans rfl
theorem q_26_4646 (G : Nat × (Nat → Int32)) (d : Nat) (x1 : Int32) (s0 : Int32) (σ : aH) : Lq G d M_26 (12, [some (.ref 76), some (.int x1)], [.int s0, .ref 77], σ) = aCI (Rn G d 27 [.ref 77, .int s0] σ) fun v2 σ1 => Lq G d M_26 (15, [some (.ref 76), some (.int x1)], [.int v2], σ1) :=
  (aUn_eq (tkd G.1 G.2) tmi (aRun (tkd G.1 G.2) tmi tmt d) M_26 [] 1 (12, [some (.ref 76), some (.int x1)], [.int s0, .ref 77], σ)).trans rfl
theorem q_26_4647 (G : Nat × (Nat → Int32)) (d : Nat) (x1 : Int32) (s0 : Int32) (σ : aH) : Lq G d M_26 (15, [some (.ref 76), some (.int x1)], [.int s0], σ) = aNar .char (s0) (some (.inl (some (.int s0)), σ)) :=
  (aUn_eq (tkd G.1 G.2) tmi (aRun (tkd G.1 G.2) tmi tmt d) M_26 [] 1 (15, [some (.ref 76), some (.int x1)], [.int s0], σ)).trans rfl
theorem q_26_4648 (G : Nat × (Nat → Int32)) (d : Nat) (x1 : Int32) (σ : aH) : Lq G d M_26 (0, [some (.ref 78), some (.int x1)], [], σ) = Lq G d M_26 (1, [some (.ref 78), some (.int x1)], [.ref 78], σ) :=
  (aUn_eq (tkd G.1 G.2) tmi (aRun (tkd G.1 G.2) tmi tmt d) M_26 [] 1 (0, [some (.ref 78), some (.int x1)], [], σ)).trans rfl
theorem q_26_4649 (G : Nat × (Nat → Int32)) (d : Nat) (x1 : Int32) (σ : aH) : Lq G d M_26 (1, [some (.ref 78), some (.int x1)], [.ref 78], σ) = aCI (Rn G d 14 [.ref 78] σ) fun v2 σ1 => Lq G d M_26 (4, [some (.ref 78), some (.int x1)], [.int v2], σ1) :=
  (aUn_eq (tkd G.1 G.2) tmi (aRun (tkd G.1 G.2) tmi tmt d) M_26 [] 1 (1, [some (.ref 78), some (.int x1)], [.ref 78], σ)).trans rfl
theorem q_26_4650 (G : Nat × (Nat → Int32)) (d : Nat) (x1 : Int32) (s0 : Int32) (σ : aH) : Lq G d M_26 (4, [some (.ref 78), some (.int x1)], [.int s0], σ) = if s0 = 0 then Lq G d M_26 (16, [some (.ref 78), some (.int x1)], [], σ) else Lq G d M_26 (7, [some (.ref 78), some (.int x1)], [], σ) :=
  (aUn_eq (tkd G.1 G.2) tmi (aRun (tkd G.1 G.2) tmi tmt d) M_26 [] 1 (4, [some (.ref 78), some (.int x1)], [.int s0], σ)).trans rfl
theorem q_26_4651 (G : Nat × (Nat → Int32)) (d : Nat) (x1 : Int32) (σ : aH) : Lq G d M_26 (16, [some (.ref 78), some (.int x1)], [], σ) = Lq G d M_26 (21, [some (.ref 78), some (.int x1)], [.int x1, .ref 79], σ) :=
  (aUn_eq (tkd G.1 G.2) tmi (aRun (tkd G.1 G.2) tmi tmt d) M_26 [] 3 (16, [some (.ref 78), some (.int x1)], [], σ)).trans rfl
theorem q_26_4652 (G : Nat × (Nat → Int32)) (d : Nat) (x1 : Int32) (s0 : Int32) (σ : aH) : Lq G d M_26 (21, [some (.ref 78), some (.int x1)], [.int s0, .ref 79], σ) = none :=
  (aUn_eq (tkd G.1 G.2) tmi (aRun (tkd G.1 G.2) tmi tmt d) M_26 [] 1 (21, [some (.ref 78), some (.int x1)], [.int s0, .ref 79], σ)).trans rfl
theorem q_26_4653 (G : Nat × (Nat → Int32)) (d : Nat) (x1 : Int32) (σ : aH) : Lq G d M_26 (7, [some (.ref 78), some (.int x1)], [], σ) = Lq G d M_26 (12, [some (.ref 78), some (.int x1)], [.int x1, .ref 79], σ) :=
  (aUn_eq (tkd G.1 G.2) tmi (aRun (tkd G.1 G.2) tmi tmt d) M_26 [] 3 (7, [some (.ref 78), some (.int x1)], [], σ)).trans rfl
theorem q_26_4654 (G : Nat × (Nat → Int32)) (d : Nat) (x1 : Int32) (s0 : Int32) (σ : aH) : Lq G d M_26 (12, [some (.ref 78), some (.int x1)], [.int s0, .ref 79], σ) = aCI (Rn G d 27 [.ref 79, .int s0] σ) fun v2 σ1 => Lq G d M_26 (15, [some (.ref 78), some (.int x1)], [.int v2], σ1) :=
  (aUn_eq (tkd G.1 G.2) tmi (aRun (tkd G.1 G.2) tmi tmt d) M_26 [] 1 (12, [some (.ref 78), some (.int x1)], [.int s0, .ref 79], σ)).trans rfl
theorem q_26_4655 (G : Nat × (Nat → Int32)) (d : Nat) (x1 : Int32) (s0 : Int32) (σ : aH) : Lq G d M_26 (15, [some (.ref 78), some (.int x1)], [.int s0], σ) = aNar .char (s0) (some (.inl (some (.int s0)), σ)) :=
  (aUn_eq (tkd G.1 G.2) tmi (aRun (tkd G.1 G.2) tmi tmt d) M_26 [] 1 (15, [some (.ref 78), some (.int x1)], [.int s0], σ)).trans rfl
theorem q_26_4656 (G : Nat × (Nat → Int32)) (d : Nat) (x1 : Int32) (σ : aH) : Lq G d M_26 (0, [some (.ref 80), some (.int x1)], [], σ) = Lq G d M_26 (1, [some (.ref 80), some (.int x1)], [.ref 80], σ) :=
  (aUn_eq (tkd G.1 G.2) tmi (aRun (tkd G.1 G.2) tmi tmt d) M_26 [] 1 (0, [some (.ref 80), some (.int x1)], [], σ)).trans rfl
theorem q_26_4657 (G : Nat × (Nat → Int32)) (d : Nat) (x1 : Int32) (σ : aH) : Lq G d M_26 (1, [some (.ref 80), some (.int x1)], [.ref 80], σ) = aCI (Rn G d 14 [.ref 80] σ) fun v2 σ1 => Lq G d M_26 (4, [some (.ref 80), some (.int x1)], [.int v2], σ1) :=
  (aUn_eq (tkd G.1 G.2) tmi (aRun (tkd G.1 G.2) tmi tmt d) M_26 [] 1 (1, [some (.ref 80), some (.int x1)], [.ref 80], σ)).trans rfl
theorem q_26_4658 (G : Nat × (Nat → Int32)) (d : Nat) (x1 : Int32) (s0 : Int32) (σ : aH) : Lq G d M_26 (4, [some (.ref 80), some (.int x1)], [.int s0], σ) = if s0 = 0 then Lq G d M_26 (16, [some (.ref 80), some (.int x1)], [], σ) else Lq G d M_26 (7, [some (.ref 80), some (.int x1)], [], σ) :=
  (aUn_eq (tkd G.1 G.2) tmi (aRun (tkd G.1 G.2) tmi tmt d) M_26 [] 1 (4, [some (.ref 80), some (.int x1)], [.int s0], σ)).trans rfl
theorem q_26_4659 (G : Nat × (Nat → Int32)) (d : Nat) (x1 : Int32) (σ : aH) : Lq G d M_26 (16, [some (.ref 80), some (.int x1)], [], σ) = Lq G d M_26 (21, [some (.ref 80), some (.int x1)], [.int x1, .ref 81], σ) :=
  (aUn_eq (tkd G.1 G.2) tmi (aRun (tkd G.1 G.2) tmi tmt d) M_26 [] 3 (16, [some (.ref 80), some (.int x1)], [], σ)).trans rfl
theorem q_26_4660 (G : Nat × (Nat → Int32)) (d : Nat) (x1 : Int32) (s0 : Int32) (σ : aH) : Lq G d M_26 (21, [some (.ref 80), some (.int x1)], [.int s0, .ref 81], σ) = none :=
  (aUn_eq (tkd G.1 G.2) tmi (aRun (tkd G.1 G.2) tmi tmt d) M_26 [] 1 (21, [some (.ref 80), some (.int x1)], [.int s0, .ref 81], σ)).trans rfl
theorem q_26_4661 (G : Nat × (Nat → Int32)) (d : Nat) (x1 : Int32) (σ : aH) : Lq G d M_26 (7, [some (.ref 80), some (.int x1)], [], σ) = Lq G d M_26 (12, [some (.ref 80), some (.int x1)], [.int x1, .ref 81], σ) :=
  (aUn_eq (tkd G.1 G.2) tmi (aRun (tkd G.1 G.2) tmi tmt d) M_26 [] 3 (7, [some (.ref 80), some (.int x1)], [], σ)).trans rfl
theorem q_26_4662 (G : Nat × (Nat → Int32)) (d : Nat) (x1 : Int32) (s0 : Int32) (σ : aH) : Lq G d M_26 (12, [some (.ref 80), some (.int x1)], [.int s0, .ref 81], σ) = aCI (Rn G d 27 [.ref 81, .int s0] σ) fun v2 σ1 => Lq G d M_26 (15, [some (.ref 80), some (.int x1)], [.int v2], σ1) :=
  (aUn_eq (tkd G.1 G.2) tmi (aRun (tkd G.1 G.2) tmi tmt d) M_26 [] 1 (12, [some (.ref 80), some (.int x1)], [.int s0, .ref 81], σ)).trans rfl
theorem q_26_4663 (G : Nat × (Nat → Int32)) (d : Nat) (x1 : Int32) (s0 : Int32) (σ : aH) : Lq G d M_26 (15, [some (.ref 80), some (.int x1)], [.int s0], σ) = aNar .char (s0) (some (.inl (some (.int s0)), σ)) :=
  (aUn_eq (tkd G.1 G.2) tmi (aRun (tkd G.1 G.2) tmi tmt d) M_26 [] 1 (15, [some (.ref 80), some (.int x1)], [.int s0], σ)).trans rfl
theorem q_26_4664 (G : Nat × (Nat → Int32)) (d : Nat) (x1 : Int32) (σ : aH) : Lq G d M_26 (0, [some (.ref 82), some (.int x1)], [], σ) = Lq G d M_26 (1, [some (.ref 82), some (.int x1)], [.ref 82], σ) :=
  (aUn_eq (tkd G.1 G.2) tmi (aRun (tkd G.1 G.2) tmi tmt d) M_26 [] 1 (0, [some (.ref 82), some (.int x1)], [], σ)).trans rfl
theorem q_26_4665 (G : Nat × (Nat → Int32)) (d : Nat) (x1 : Int32) (σ : aH) : Lq G d M_26 (1, [some (.ref 82), some (.int x1)], [.ref 82], σ) = aCI (Rn G d 14 [.ref 82] σ) fun v2 σ1 => Lq G d M_26 (4, [some (.ref 82), some (.int x1)], [.int v2], σ1) :=
  (aUn_eq (tkd G.1 G.2) tmi (aRun (tkd G.1 G.2) tmi tmt d) M_26 [] 1 (1, [some (.ref 82), some (.int x1)], [.ref 82], σ)).trans rfl
theorem q_26_4666 (G : Nat × (Nat → Int32)) (d : Nat) (x1 : Int32) (s0 : Int32) (σ : aH) : Lq G d M_26 (4, [some (.ref 82), some (.int x1)], [.int s0], σ) = if s0 = 0 then Lq G d M_26 (16, [some (.ref 82), some (.int x1)], [], σ) else Lq G d M_26 (7, [some (.ref 82), some (.int x1)], [], σ) :=
  (aUn_eq (tkd G.1 G.2) tmi (aRun (tkd G.1 G.2) tmi tmt d) M_26 [] 1 (4, [some (.ref 82), some (.int x1)], [.int s0], σ)).trans rfl
theorem q_26_4667 (G : Nat × (Nat → Int32)) (d : Nat) (x1 : Int32) (σ : aH) : Lq G d M_26 (16, [some (.ref 82), some (.int x1)], [], σ) = Lq G d M_26 (21, [some (.ref 82), some (.int x1)], [.int x1, .ref 83], σ) :=
  (aUn_eq (tkd G.1 G.2) tmi (aRun (tkd G.1 G.2) tmi tmt d) M_26 [] 3 (16, [some (.ref 82), some (.int x1)], [], σ)).trans rfl
theorem q_26_4668 (G : Nat × (Nat → Int32)) (d : Nat) (x1 : Int32) (s0 : Int32) (σ : aH) : Lq G d M_26 (21, [some (.ref 82), some (.int x1)], [.int s0, .ref 83], σ) = none :=
  (aUn_eq (tkd G.1 G.2) tmi (aRun (tkd G.1 G.2) tmi tmt d) M_26 [] 1 (21, [some (.ref 82), some (.int x1)], [.int s0, .ref 83], σ)).trans rfl
theorem q_26_4669 (G : Nat × (Nat → Int32)) (d : Nat) (x1 : Int32) (σ : aH) : Lq G d M_26 (7, [some (.ref 82), some (.int x1)], [], σ) = Lq G d M_26 (12, [some (.ref 82), some (.int x1)], [.int x1, .ref 83], σ) :=
  (aUn_eq (tkd G.1 G.2) tmi (aRun (tkd G.1 G.2) tmi tmt d) M_26 [] 3 (7, [some (.ref 82), some (.int x1)], [], σ)).trans rfl
theorem q_26_4670 (G : Nat × (Nat → Int32)) (d : Nat) (x1 : Int32) (s0 : Int32) (σ : aH) : Lq G d M_26 (12, [some (.ref 82), some (.int x1)], [.int s0, .ref 83], σ) = aCI (Rn G d 27 [.ref 83, .int s0] σ) fun v2 σ1 => Lq G d M_26 (15, [some (.ref 82), some (.int x1)], [.int v2], σ1) :=
  (aUn_eq (tkd G.1 G.2) tmi (aRun (tkd G.1 G.2) tmi tmt d) M_26 [] 1 (12, [some (.ref 82), some (.int x1)], [.int s0, .ref 83], σ)).trans rfl
theorem q_26_4671 (G : Nat × (Nat → Int32)) (d : Nat) (x1 : Int32) (s0 : Int32) (σ : aH) : Lq G d M_26 (15, [some (.ref 82), some (.int x1)], [.int s0], σ) = aNar .char (s0) (some (.inl (some (.int s0)), σ)) :=
  (aUn_eq (tkd G.1 G.2) tmi (aRun (tkd G.1 G.2) tmi tmt d) M_26 [] 1 (15, [some (.ref 82), some (.int x1)], [.int s0], σ)).trans rfl
theorem q_26_4672 (G : Nat × (Nat → Int32)) (d : Nat) (x1 : Int32) (σ : aH) : Lq G d M_26 (0, [some (.ref 84), some (.int x1)], [], σ) = Lq G d M_26 (1, [some (.ref 84), some (.int x1)], [.ref 84], σ) :=
  (aUn_eq (tkd G.1 G.2) tmi (aRun (tkd G.1 G.2) tmi tmt d) M_26 [] 1 (0, [some (.ref 84), some (.int x1)], [], σ)).trans rfl
theorem q_26_4673 (G : Nat × (Nat → Int32)) (d : Nat) (x1 : Int32) (σ : aH) : Lq G d M_26 (1, [some (.ref 84), some (.int x1)], [.ref 84], σ) = aCI (Rn G d 14 [.ref 84] σ) fun v2 σ1 => Lq G d M_26 (4, [some (.ref 84), some (.int x1)], [.int v2], σ1) :=
  (aUn_eq (tkd G.1 G.2) tmi (aRun (tkd G.1 G.2) tmi tmt d) M_26 [] 1 (1, [some (.ref 84), some (.int x1)], [.ref 84], σ)).trans rfl
theorem q_26_4674 (G : Nat × (Nat → Int32)) (d : Nat) (x1 : Int32) (s0 : Int32) (σ : aH) : Lq G d M_26 (4, [some (.ref 84), some (.int x1)], [.int s0], σ) = if s0 = 0 then Lq G d M_26 (16, [some (.ref 84), some (.int x1)], [], σ) else Lq G d M_26 (7, [some (.ref 84), some (.int x1)], [], σ) :=
  (aUn_eq (tkd G.1 G.2) tmi (aRun (tkd G.1 G.2) tmi tmt d) M_26 [] 1 (4, [some (.ref 84), some (.int x1)], [.int s0], σ)).trans rfl
theorem q_26_4675 (G : Nat × (Nat → Int32)) (d : Nat) (x1 : Int32) (σ : aH) : Lq G d M_26 (16, [some (.ref 84), some (.int x1)], [], σ) = Lq G d M_26 (21, [some (.ref 84), some (.int x1)], [.int x1, .ref 85], σ) :=
  (aUn_eq (tkd G.1 G.2) tmi (aRun (tkd G.1 G.2) tmi tmt d) M_26 [] 3 (16, [some (.ref 84), some (.int x1)], [], σ)).trans rfl
theorem q_26_4676 (G : Nat × (Nat → Int32)) (d : Nat) (x1 : Int32) (s0 : Int32) (σ : aH) : Lq G d M_26 (21, [some (.ref 84), some (.int x1)], [.int s0, .ref 85], σ) = none :=
  (aUn_eq (tkd G.1 G.2) tmi (aRun (tkd G.1 G.2) tmi tmt d) M_26 [] 1 (21, [some (.ref 84), some (.int x1)], [.int s0, .ref 85], σ)).trans rfl
theorem q_26_4677 (G : Nat × (Nat → Int32)) (d : Nat) (x1 : Int32) (σ : aH) : Lq G d M_26 (7, [some (.ref 84), some (.int x1)], [], σ) = Lq G d M_26 (12, [some (.ref 84), some (.int x1)], [.int x1, .ref 85], σ) :=
  (aUn_eq (tkd G.1 G.2) tmi (aRun (tkd G.1 G.2) tmi tmt d) M_26 [] 3 (7, [some (.ref 84), some (.int x1)], [], σ)).trans rfl
theorem q_26_4678 (G : Nat × (Nat → Int32)) (d : Nat) (x1 : Int32) (s0 : Int32) (σ : aH) : Lq G d M_26 (12, [some (.ref 84), some (.int x1)], [.int s0, .ref 85], σ) = aCI (Rn G d 27 [.ref 85, .int s0] σ) fun v2 σ1 => Lq G d M_26 (15, [some (.ref 84), some (.int x1)], [.int v2], σ1) :=
  (aUn_eq (tkd G.1 G.2) tmi (aRun (tkd G.1 G.2) tmi tmt d) M_26 [] 1 (12, [some (.ref 84), some (.int x1)], [.int s0, .ref 85], σ)).trans rfl
theorem q_26_4679 (G : Nat × (Nat → Int32)) (d : Nat) (x1 : Int32) (s0 : Int32) (σ : aH) : Lq G d M_26 (15, [some (.ref 84), some (.int x1)], [.int s0], σ) = aNar .char (s0) (some (.inl (some (.int s0)), σ)) :=
  (aUn_eq (tkd G.1 G.2) tmi (aRun (tkd G.1 G.2) tmi tmt d) M_26 [] 1 (15, [some (.ref 84), some (.int x1)], [.int s0], σ)).trans rfl
theorem q_26_4680 (G : Nat × (Nat → Int32)) (d : Nat) (x1 : Int32) (σ : aH) : Lq G d M_26 (0, [some (.ref 86), some (.int x1)], [], σ) = Lq G d M_26 (1, [some (.ref 86), some (.int x1)], [.ref 86], σ) :=
  (aUn_eq (tkd G.1 G.2) tmi (aRun (tkd G.1 G.2) tmi tmt d) M_26 [] 1 (0, [some (.ref 86), some (.int x1)], [], σ)).trans rfl
theorem q_26_4681 (G : Nat × (Nat → Int32)) (d : Nat) (x1 : Int32) (σ : aH) : Lq G d M_26 (1, [some (.ref 86), some (.int x1)], [.ref 86], σ) = aCI (Rn G d 14 [.ref 86] σ) fun v2 σ1 => Lq G d M_26 (4, [some (.ref 86), some (.int x1)], [.int v2], σ1) :=
  (aUn_eq (tkd G.1 G.2) tmi (aRun (tkd G.1 G.2) tmi tmt d) M_26 [] 1 (1, [some (.ref 86), some (.int x1)], [.ref 86], σ)).trans rfl
theorem q_26_4682 (G : Nat × (Nat → Int32)) (d : Nat) (x1 : Int32) (s0 : Int32) (σ : aH) : Lq G d M_26 (4, [some (.ref 86), some (.int x1)], [.int s0], σ) = if s0 = 0 then Lq G d M_26 (16, [some (.ref 86), some (.int x1)], [], σ) else Lq G d M_26 (7, [some (.ref 86), some (.int x1)], [], σ) :=
  (aUn_eq (tkd G.1 G.2) tmi (aRun (tkd G.1 G.2) tmi tmt d) M_26 [] 1 (4, [some (.ref 86), some (.int x1)], [.int s0], σ)).trans rfl
theorem q_26_4683 (G : Nat × (Nat → Int32)) (d : Nat) (x1 : Int32) (σ : aH) : Lq G d M_26 (16, [some (.ref 86), some (.int x1)], [], σ) = Lq G d M_26 (21, [some (.ref 86), some (.int x1)], [.int x1, .ref 87], σ) :=
  (aUn_eq (tkd G.1 G.2) tmi (aRun (tkd G.1 G.2) tmi tmt d) M_26 [] 3 (16, [some (.ref 86), some (.int x1)], [], σ)).trans rfl
theorem q_26_4684 (G : Nat × (Nat → Int32)) (d : Nat) (x1 : Int32) (s0 : Int32) (σ : aH) : Lq G d M_26 (21, [some (.ref 86), some (.int x1)], [.int s0, .ref 87], σ) = none :=
  (aUn_eq (tkd G.1 G.2) tmi (aRun (tkd G.1 G.2) tmi tmt d) M_26 [] 1 (21, [some (.ref 86), some (.int x1)], [.int s0, .ref 87], σ)).trans rfl
theorem q_26_4685 (G : Nat × (Nat → Int32)) (d : Nat) (x1 : Int32) (σ : aH) : Lq G d M_26 (7, [some (.ref 86), some (.int x1)], [], σ) = Lq G d M_26 (12, [some (.ref 86), some (.int x1)], [.int x1, .ref 87], σ) :=
  (aUn_eq (tkd G.1 G.2) tmi (aRun (tkd G.1 G.2) tmi tmt d) M_26 [] 3 (7, [some (.ref 86), some (.int x1)], [], σ)).trans rfl
theorem q_26_4686 (G : Nat × (Nat → Int32)) (d : Nat) (x1 : Int32) (s0 : Int32) (σ : aH) : Lq G d M_26 (12, [some (.ref 86), some (.int x1)], [.int s0, .ref 87], σ) = aCI (Rn G d 27 [.ref 87, .int s0] σ) fun v2 σ1 => Lq G d M_26 (15, [some (.ref 86), some (.int x1)], [.int v2], σ1) :=
  (aUn_eq (tkd G.1 G.2) tmi (aRun (tkd G.1 G.2) tmi tmt d) M_26 [] 1 (12, [some (.ref 86), some (.int x1)], [.int s0, .ref 87], σ)).trans rfl
theorem q_26_4687 (G : Nat × (Nat → Int32)) (d : Nat) (x1 : Int32) (s0 : Int32) (σ : aH) : Lq G d M_26 (15, [some (.ref 86), some (.int x1)], [.int s0], σ) = aNar .char (s0) (some (.inl (some (.int s0)), σ)) :=
  (aUn_eq (tkd G.1 G.2) tmi (aRun (tkd G.1 G.2) tmi tmt d) M_26 [] 1 (15, [some (.ref 86), some (.int x1)], [.int s0], σ)).trans rfl
theorem q_26_4688 (G : Nat × (Nat → Int32)) (d : Nat) (x1 : Int32) (σ : aH) : Lq G d M_26 (0, [some (.ref 88), some (.int x1)], [], σ) = Lq G d M_26 (1, [some (.ref 88), some (.int x1)], [.ref 88], σ) :=
  (aUn_eq (tkd G.1 G.2) tmi (aRun (tkd G.1 G.2) tmi tmt d) M_26 [] 1 (0, [some (.ref 88), some (.int x1)], [], σ)).trans rfl
theorem q_26_4689 (G : Nat × (Nat → Int32)) (d : Nat) (x1 : Int32) (σ : aH) : Lq G d M_26 (1, [some (.ref 88), some (.int x1)], [.ref 88], σ) = aCI (Rn G d 14 [.ref 88] σ) fun v2 σ1 => Lq G d M_26 (4, [some (.ref 88), some (.int x1)], [.int v2], σ1) :=
  (aUn_eq (tkd G.1 G.2) tmi (aRun (tkd G.1 G.2) tmi tmt d) M_26 [] 1 (1, [some (.ref 88), some (.int x1)], [.ref 88], σ)).trans rfl
theorem q_26_4690 (G : Nat × (Nat → Int32)) (d : Nat) (x1 : Int32) (s0 : Int32) (σ : aH) : Lq G d M_26 (4, [some (.ref 88), some (.int x1)], [.int s0], σ) = if s0 = 0 then Lq G d M_26 (16, [some (.ref 88), some (.int x1)], [], σ) else Lq G d M_26 (7, [some (.ref 88), some (.int x1)], [], σ) :=
  (aUn_eq (tkd G.1 G.2) tmi (aRun (tkd G.1 G.2) tmi tmt d) M_26 [] 1 (4, [some (.ref 88), some (.int x1)], [.int s0], σ)).trans rfl
theorem q_26_4691 (G : Nat × (Nat → Int32)) (d : Nat) (x1 : Int32) (σ : aH) : Lq G d M_26 (16, [some (.ref 88), some (.int x1)], [], σ) = Lq G d M_26 (21, [some (.ref 88), some (.int x1)], [.int x1, .ref 89], σ) :=
  (aUn_eq (tkd G.1 G.2) tmi (aRun (tkd G.1 G.2) tmi tmt d) M_26 [] 3 (16, [some (.ref 88), some (.int x1)], [], σ)).trans rfl
theorem q_26_4692 (G : Nat × (Nat → Int32)) (d : Nat) (x1 : Int32) (s0 : Int32) (σ : aH) : Lq G d M_26 (21, [some (.ref 88), some (.int x1)], [.int s0, .ref 89], σ) = none :=
  (aUn_eq (tkd G.1 G.2) tmi (aRun (tkd G.1 G.2) tmi tmt d) M_26 [] 1 (21, [some (.ref 88), some (.int x1)], [.int s0, .ref 89], σ)).trans rfl
theorem q_26_4693 (G : Nat × (Nat → Int32)) (d : Nat) (x1 : Int32) (σ : aH) : Lq G d M_26 (7, [some (.ref 88), some (.int x1)], [], σ) = Lq G d M_26 (12, [some (.ref 88), some (.int x1)], [.int x1, .ref 89], σ) :=
  (aUn_eq (tkd G.1 G.2) tmi (aRun (tkd G.1 G.2) tmi tmt d) M_26 [] 3 (7, [some (.ref 88), some (.int x1)], [], σ)).trans rfl
theorem q_26_4694 (G : Nat × (Nat → Int32)) (d : Nat) (x1 : Int32) (s0 : Int32) (σ : aH) : Lq G d M_26 (12, [some (.ref 88), some (.int x1)], [.int s0, .ref 89], σ) = aCI (Rn G d 27 [.ref 89, .int s0] σ) fun v2 σ1 => Lq G d M_26 (15, [some (.ref 88), some (.int x1)], [.int v2], σ1) :=
  (aUn_eq (tkd G.1 G.2) tmi (aRun (tkd G.1 G.2) tmi tmt d) M_26 [] 1 (12, [some (.ref 88), some (.int x1)], [.int s0, .ref 89], σ)).trans rfl
theorem q_26_4695 (G : Nat × (Nat → Int32)) (d : Nat) (x1 : Int32) (s0 : Int32) (σ : aH) : Lq G d M_26 (15, [some (.ref 88), some (.int x1)], [.int s0], σ) = aNar .char (s0) (some (.inl (some (.int s0)), σ)) :=
  (aUn_eq (tkd G.1 G.2) tmi (aRun (tkd G.1 G.2) tmi tmt d) M_26 [] 1 (15, [some (.ref 88), some (.int x1)], [.int s0], σ)).trans rfl
theorem q_26_4696 (G : Nat × (Nat → Int32)) (d : Nat) (x1 : Int32) (σ : aH) : Lq G d M_26 (0, [some (.ref 90), some (.int x1)], [], σ) = Lq G d M_26 (1, [some (.ref 90), some (.int x1)], [.ref 90], σ) :=
  (aUn_eq (tkd G.1 G.2) tmi (aRun (tkd G.1 G.2) tmi tmt d) M_26 [] 1 (0, [some (.ref 90), some (.int x1)], [], σ)).trans rfl
theorem q_26_4697 (G : Nat × (Nat → Int32)) (d : Nat) (x1 : Int32) (σ : aH) : Lq G d M_26 (1, [some (.ref 90), some (.int x1)], [.ref 90], σ) = aCI (Rn G d 14 [.ref 90] σ) fun v2 σ1 => Lq G d M_26 (4, [some (.ref 90), some (.int x1)], [.int v2], σ1) :=
  (aUn_eq (tkd G.1 G.2) tmi (aRun (tkd G.1 G.2) tmi tmt d) M_26 [] 1 (1, [some (.ref 90), some (.int x1)], [.ref 90], σ)).trans rfl
theorem q_26_4698 (G : Nat × (Nat → Int32)) (d : Nat) (x1 : Int32) (s0 : Int32) (σ : aH) : Lq G d M_26 (4, [some (.ref 90), some (.int x1)], [.int s0], σ) = if s0 = 0 then Lq G d M_26 (16, [some (.ref 90), some (.int x1)], [], σ) else Lq G d M_26 (7, [some (.ref 90), some (.int x1)], [], σ) :=
  (aUn_eq (tkd G.1 G.2) tmi (aRun (tkd G.1 G.2) tmi tmt d) M_26 [] 1 (4, [some (.ref 90), some (.int x1)], [.int s0], σ)).trans rfl
theorem q_26_4699 (G : Nat × (Nat → Int32)) (d : Nat) (x1 : Int32) (σ : aH) : Lq G d M_26 (16, [some (.ref 90), some (.int x1)], [], σ) = Lq G d M_26 (21, [some (.ref 90), some (.int x1)], [.int x1, .ref 91], σ) :=
  (aUn_eq (tkd G.1 G.2) tmi (aRun (tkd G.1 G.2) tmi tmt d) M_26 [] 3 (16, [some (.ref 90), some (.int x1)], [], σ)).trans rfl
theorem q_26_4700 (G : Nat × (Nat → Int32)) (d : Nat) (x1 : Int32) (s0 : Int32) (σ : aH) : Lq G d M_26 (21, [some (.ref 90), some (.int x1)], [.int s0, .ref 91], σ) = none :=
  (aUn_eq (tkd G.1 G.2) tmi (aRun (tkd G.1 G.2) tmi tmt d) M_26 [] 1 (21, [some (.ref 90), some (.int x1)], [.int s0, .ref 91], σ)).trans rfl
theorem q_26_4701 (G : Nat × (Nat → Int32)) (d : Nat) (x1 : Int32) (σ : aH) : Lq G d M_26 (7, [some (.ref 90), some (.int x1)], [], σ) = Lq G d M_26 (12, [some (.ref 90), some (.int x1)], [.int x1, .ref 91], σ) :=
  (aUn_eq (tkd G.1 G.2) tmi (aRun (tkd G.1 G.2) tmi tmt d) M_26 [] 3 (7, [some (.ref 90), some (.int x1)], [], σ)).trans rfl
theorem q_26_4702 (G : Nat × (Nat → Int32)) (d : Nat) (x1 : Int32) (s0 : Int32) (σ : aH) : Lq G d M_26 (12, [some (.ref 90), some (.int x1)], [.int s0, .ref 91], σ) = aCI (Rn G d 27 [.ref 91, .int s0] σ) fun v2 σ1 => Lq G d M_26 (15, [some (.ref 90), some (.int x1)], [.int v2], σ1) :=
  (aUn_eq (tkd G.1 G.2) tmi (aRun (tkd G.1 G.2) tmi tmt d) M_26 [] 1 (12, [some (.ref 90), some (.int x1)], [.int s0, .ref 91], σ)).trans rfl
theorem q_26_4703 (G : Nat × (Nat → Int32)) (d : Nat) (x1 : Int32) (s0 : Int32) (σ : aH) : Lq G d M_26 (15, [some (.ref 90), some (.int x1)], [.int s0], σ) = aNar .char (s0) (some (.inl (some (.int s0)), σ)) :=
  (aUn_eq (tkd G.1 G.2) tmi (aRun (tkd G.1 G.2) tmi tmt d) M_26 [] 1 (15, [some (.ref 90), some (.int x1)], [.int s0], σ)).trans rfl
theorem q_26_4704 (G : Nat × (Nat → Int32)) (d : Nat) (x1 : Int32) (σ : aH) : Lq G d M_26 (0, [some (.ref 92), some (.int x1)], [], σ) = Lq G d M_26 (1, [some (.ref 92), some (.int x1)], [.ref 92], σ) :=
  (aUn_eq (tkd G.1 G.2) tmi (aRun (tkd G.1 G.2) tmi tmt d) M_26 [] 1 (0, [some (.ref 92), some (.int x1)], [], σ)).trans rfl
theorem q_26_4705 (G : Nat × (Nat → Int32)) (d : Nat) (x1 : Int32) (σ : aH) : Lq G d M_26 (1, [some (.ref 92), some (.int x1)], [.ref 92], σ) = aCI (Rn G d 14 [.ref 92] σ) fun v2 σ1 => Lq G d M_26 (4, [some (.ref 92), some (.int x1)], [.int v2], σ1) :=
  (aUn_eq (tkd G.1 G.2) tmi (aRun (tkd G.1 G.2) tmi tmt d) M_26 [] 1 (1, [some (.ref 92), some (.int x1)], [.ref 92], σ)).trans rfl
theorem q_26_4706 (G : Nat × (Nat → Int32)) (d : Nat) (x1 : Int32) (s0 : Int32) (σ : aH) : Lq G d M_26 (4, [some (.ref 92), some (.int x1)], [.int s0], σ) = if s0 = 0 then Lq G d M_26 (16, [some (.ref 92), some (.int x1)], [], σ) else Lq G d M_26 (7, [some (.ref 92), some (.int x1)], [], σ) :=
  (aUn_eq (tkd G.1 G.2) tmi (aRun (tkd G.1 G.2) tmi tmt d) M_26 [] 1 (4, [some (.ref 92), some (.int x1)], [.int s0], σ)).trans rfl
theorem q_26_4707 (G : Nat × (Nat → Int32)) (d : Nat) (x1 : Int32) (σ : aH) : Lq G d M_26 (16, [some (.ref 92), some (.int x1)], [], σ) = Lq G d M_26 (21, [some (.ref 92), some (.int x1)], [.int x1, .ref 93], σ) :=
  (aUn_eq (tkd G.1 G.2) tmi (aRun (tkd G.1 G.2) tmi tmt d) M_26 [] 3 (16, [some (.ref 92), some (.int x1)], [], σ)).trans rfl
theorem q_26_4708 (G : Nat × (Nat → Int32)) (d : Nat) (x1 : Int32) (s0 : Int32) (σ : aH) : Lq G d M_26 (21, [some (.ref 92), some (.int x1)], [.int s0, .ref 93], σ) = none :=
  (aUn_eq (tkd G.1 G.2) tmi (aRun (tkd G.1 G.2) tmi tmt d) M_26 [] 1 (21, [some (.ref 92), some (.int x1)], [.int s0, .ref 93], σ)).trans rfl
theorem q_26_4709 (G : Nat × (Nat → Int32)) (d : Nat) (x1 : Int32) (σ : aH) : Lq G d M_26 (7, [some (.ref 92), some (.int x1)], [], σ) = Lq G d M_26 (12, [some (.ref 92), some (.int x1)], [.int x1, .ref 93], σ) :=
  (aUn_eq (tkd G.1 G.2) tmi (aRun (tkd G.1 G.2) tmi tmt d) M_26 [] 3 (7, [some (.ref 92), some (.int x1)], [], σ)).trans rfl
theorem q_26_4710 (G : Nat × (Nat → Int32)) (d : Nat) (x1 : Int32) (s0 : Int32) (σ : aH) : Lq G d M_26 (12, [some (.ref 92), some (.int x1)], [.int s0, .ref 93], σ) = aCI (Rn G d 27 [.ref 93, .int s0] σ) fun v2 σ1 => Lq G d M_26 (15, [some (.ref 92), some (.int x1)], [.int v2], σ1) :=
  (aUn_eq (tkd G.1 G.2) tmi (aRun (tkd G.1 G.2) tmi tmt d) M_26 [] 1 (12, [some (.ref 92), some (.int x1)], [.int s0, .ref 93], σ)).trans rfl
theorem q_26_4711 (G : Nat × (Nat → Int32)) (d : Nat) (x1 : Int32) (s0 : Int32) (σ : aH) : Lq G d M_26 (15, [some (.ref 92), some (.int x1)], [.int s0], σ) = aNar .char (s0) (some (.inl (some (.int s0)), σ)) :=
  (aUn_eq (tkd G.1 G.2) tmi (aRun (tkd G.1 G.2) tmi tmt d) M_26 [] 1 (15, [some (.ref 92), some (.int x1)], [.int s0], σ)).trans rfl
theorem q_26_4712 (G : Nat × (Nat → Int32)) (d : Nat) (x1 : Int32) (σ : aH) : Lq G d M_26 (0, [some (.ref 94), some (.int x1)], [], σ) = Lq G d M_26 (1, [some (.ref 94), some (.int x1)], [.ref 94], σ) :=
  (aUn_eq (tkd G.1 G.2) tmi (aRun (tkd G.1 G.2) tmi tmt d) M_26 [] 1 (0, [some (.ref 94), some (.int x1)], [], σ)).trans rfl
theorem q_26_4713 (G : Nat × (Nat → Int32)) (d : Nat) (x1 : Int32) (σ : aH) : Lq G d M_26 (1, [some (.ref 94), some (.int x1)], [.ref 94], σ) = aCI (Rn G d 14 [.ref 94] σ) fun v2 σ1 => Lq G d M_26 (4, [some (.ref 94), some (.int x1)], [.int v2], σ1) :=
  (aUn_eq (tkd G.1 G.2) tmi (aRun (tkd G.1 G.2) tmi tmt d) M_26 [] 1 (1, [some (.ref 94), some (.int x1)], [.ref 94], σ)).trans rfl
theorem q_26_4714 (G : Nat × (Nat → Int32)) (d : Nat) (x1 : Int32) (s0 : Int32) (σ : aH) : Lq G d M_26 (4, [some (.ref 94), some (.int x1)], [.int s0], σ) = if s0 = 0 then Lq G d M_26 (16, [some (.ref 94), some (.int x1)], [], σ) else Lq G d M_26 (7, [some (.ref 94), some (.int x1)], [], σ) :=
  (aUn_eq (tkd G.1 G.2) tmi (aRun (tkd G.1 G.2) tmi tmt d) M_26 [] 1 (4, [some (.ref 94), some (.int x1)], [.int s0], σ)).trans rfl
theorem q_26_4715 (G : Nat × (Nat → Int32)) (d : Nat) (x1 : Int32) (σ : aH) : Lq G d M_26 (16, [some (.ref 94), some (.int x1)], [], σ) = Lq G d M_26 (21, [some (.ref 94), some (.int x1)], [.int x1, .ref 95], σ) :=
  (aUn_eq (tkd G.1 G.2) tmi (aRun (tkd G.1 G.2) tmi tmt d) M_26 [] 3 (16, [some (.ref 94), some (.int x1)], [], σ)).trans rfl
theorem q_26_4716 (G : Nat × (Nat → Int32)) (d : Nat) (x1 : Int32) (s0 : Int32) (σ : aH) : Lq G d M_26 (21, [some (.ref 94), some (.int x1)], [.int s0, .ref 95], σ) = none :=
  (aUn_eq (tkd G.1 G.2) tmi (aRun (tkd G.1 G.2) tmi tmt d) M_26 [] 1 (21, [some (.ref 94), some (.int x1)], [.int s0, .ref 95], σ)).trans rfl
theorem q_26_4717 (G : Nat × (Nat → Int32)) (d : Nat) (x1 : Int32) (σ : aH) : Lq G d M_26 (7, [some (.ref 94), some (.int x1)], [], σ) = Lq G d M_26 (12, [some (.ref 94), some (.int x1)], [.int x1, .ref 95], σ) :=
  (aUn_eq (tkd G.1 G.2) tmi (aRun (tkd G.1 G.2) tmi tmt d) M_26 [] 3 (7, [some (.ref 94), some (.int x1)], [], σ)).trans rfl
theorem q_26_4718 (G : Nat × (Nat → Int32)) (d : Nat) (x1 : Int32) (s0 : Int32) (σ : aH) : Lq G d M_26 (12, [some (.ref 94), some (.int x1)], [.int s0, .ref 95], σ) = aCI (Rn G d 27 [.ref 95, .int s0] σ) fun v2 σ1 => Lq G d M_26 (15, [some (.ref 94), some (.int x1)], [.int v2], σ1) :=
  (aUn_eq (tkd G.1 G.2) tmi (aRun (tkd G.1 G.2) tmi tmt d) M_26 [] 1 (12, [some (.ref 94), some (.int x1)], [.int s0, .ref 95], σ)).trans rfl
theorem q_26_4719 (G : Nat × (Nat → Int32)) (d : Nat) (x1 : Int32) (s0 : Int32) (σ : aH) : Lq G d M_26 (15, [some (.ref 94), some (.int x1)], [.int s0], σ) = aNar .char (s0) (some (.inl (some (.int s0)), σ)) :=
  (aUn_eq (tkd G.1 G.2) tmi (aRun (tkd G.1 G.2) tmi tmt d) M_26 [] 1 (15, [some (.ref 94), some (.int x1)], [.int s0], σ)).trans rfl
theorem q_26_4720 (G : Nat × (Nat → Int32)) (d : Nat) (x1 : Int32) (σ : aH) : Lq G d M_26 (0, [some (.ref 96), some (.int x1)], [], σ) = Lq G d M_26 (1, [some (.ref 96), some (.int x1)], [.ref 96], σ) :=
  (aUn_eq (tkd G.1 G.2) tmi (aRun (tkd G.1 G.2) tmi tmt d) M_26 [] 1 (0, [some (.ref 96), some (.int x1)], [], σ)).trans rfl
theorem q_26_4721 (G : Nat × (Nat → Int32)) (d : Nat) (x1 : Int32) (σ : aH) : Lq G d M_26 (1, [some (.ref 96), some (.int x1)], [.ref 96], σ) = aCI (Rn G d 14 [.ref 96] σ) fun v2 σ1 => Lq G d M_26 (4, [some (.ref 96), some (.int x1)], [.int v2], σ1) :=
  (aUn_eq (tkd G.1 G.2) tmi (aRun (tkd G.1 G.2) tmi tmt d) M_26 [] 1 (1, [some (.ref 96), some (.int x1)], [.ref 96], σ)).trans rfl
theorem q_26_4722 (G : Nat × (Nat → Int32)) (d : Nat) (x1 : Int32) (s0 : Int32) (σ : aH) : Lq G d M_26 (4, [some (.ref 96), some (.int x1)], [.int s0], σ) = if s0 = 0 then Lq G d M_26 (16, [some (.ref 96), some (.int x1)], [], σ) else Lq G d M_26 (7, [some (.ref 96), some (.int x1)], [], σ) :=
  (aUn_eq (tkd G.1 G.2) tmi (aRun (tkd G.1 G.2) tmi tmt d) M_26 [] 1 (4, [some (.ref 96), some (.int x1)], [.int s0], σ)).trans rfl
theorem q_26_4723 (G : Nat × (Nat → Int32)) (d : Nat) (x1 : Int32) (σ : aH) : Lq G d M_26 (16, [some (.ref 96), some (.int x1)], [], σ) = Lq G d M_26 (21, [some (.ref 96), some (.int x1)], [.int x1, .ref 97], σ) :=
  (aUn_eq (tkd G.1 G.2) tmi (aRun (tkd G.1 G.2) tmi tmt d) M_26 [] 3 (16, [some (.ref 96), some (.int x1)], [], σ)).trans rfl
theorem q_26_4724 (G : Nat × (Nat → Int32)) (d : Nat) (x1 : Int32) (s0 : Int32) (σ : aH) : Lq G d M_26 (21, [some (.ref 96), some (.int x1)], [.int s0, .ref 97], σ) = none :=
  (aUn_eq (tkd G.1 G.2) tmi (aRun (tkd G.1 G.2) tmi tmt d) M_26 [] 1 (21, [some (.ref 96), some (.int x1)], [.int s0, .ref 97], σ)).trans rfl
theorem q_26_4725 (G : Nat × (Nat → Int32)) (d : Nat) (x1 : Int32) (σ : aH) : Lq G d M_26 (7, [some (.ref 96), some (.int x1)], [], σ) = Lq G d M_26 (12, [some (.ref 96), some (.int x1)], [.int x1, .ref 97], σ) :=
  (aUn_eq (tkd G.1 G.2) tmi (aRun (tkd G.1 G.2) tmi tmt d) M_26 [] 3 (7, [some (.ref 96), some (.int x1)], [], σ)).trans rfl
theorem q_26_4726 (G : Nat × (Nat → Int32)) (d : Nat) (x1 : Int32) (s0 : Int32) (σ : aH) : Lq G d M_26 (12, [some (.ref 96), some (.int x1)], [.int s0, .ref 97], σ) = aCI (Rn G d 27 [.ref 97, .int s0] σ) fun v2 σ1 => Lq G d M_26 (15, [some (.ref 96), some (.int x1)], [.int v2], σ1) :=
  (aUn_eq (tkd G.1 G.2) tmi (aRun (tkd G.1 G.2) tmi tmt d) M_26 [] 1 (12, [some (.ref 96), some (.int x1)], [.int s0, .ref 97], σ)).trans rfl
theorem q_26_4727 (G : Nat × (Nat → Int32)) (d : Nat) (x1 : Int32) (s0 : Int32) (σ : aH) : Lq G d M_26 (15, [some (.ref 96), some (.int x1)], [.int s0], σ) = aNar .char (s0) (some (.inl (some (.int s0)), σ)) :=
  (aUn_eq (tkd G.1 G.2) tmi (aRun (tkd G.1 G.2) tmi tmt d) M_26 [] 1 (15, [some (.ref 96), some (.int x1)], [.int s0], σ)).trans rfl
theorem q_26_4728 (G : Nat × (Nat → Int32)) (d : Nat) (x1 : Int32) (σ : aH) : Lq G d M_26 (0, [some (.ref 98), some (.int x1)], [], σ) = Lq G d M_26 (1, [some (.ref 98), some (.int x1)], [.ref 98], σ) :=
  (aUn_eq (tkd G.1 G.2) tmi (aRun (tkd G.1 G.2) tmi tmt d) M_26 [] 1 (0, [some (.ref 98), some (.int x1)], [], σ)).trans rfl
theorem q_26_4729 (G : Nat × (Nat → Int32)) (d : Nat) (x1 : Int32) (σ : aH) : Lq G d M_26 (1, [some (.ref 98), some (.int x1)], [.ref 98], σ) = aCI (Rn G d 14 [.ref 98] σ) fun v2 σ1 => Lq G d M_26 (4, [some (.ref 98), some (.int x1)], [.int v2], σ1) :=
  (aUn_eq (tkd G.1 G.2) tmi (aRun (tkd G.1 G.2) tmi tmt d) M_26 [] 1 (1, [some (.ref 98), some (.int x1)], [.ref 98], σ)).trans rfl
theorem q_26_4730 (G : Nat × (Nat → Int32)) (d : Nat) (x1 : Int32) (s0 : Int32) (σ : aH) : Lq G d M_26 (4, [some (.ref 98), some (.int x1)], [.int s0], σ) = if s0 = 0 then Lq G d M_26 (16, [some (.ref 98), some (.int x1)], [], σ) else Lq G d M_26 (7, [some (.ref 98), some (.int x1)], [], σ) :=
  (aUn_eq (tkd G.1 G.2) tmi (aRun (tkd G.1 G.2) tmi tmt d) M_26 [] 1 (4, [some (.ref 98), some (.int x1)], [.int s0], σ)).trans rfl
theorem q_26_4731 (G : Nat × (Nat → Int32)) (d : Nat) (x1 : Int32) (σ : aH) : Lq G d M_26 (16, [some (.ref 98), some (.int x1)], [], σ) = Lq G d M_26 (21, [some (.ref 98), some (.int x1)], [.int x1, .ref 99], σ) :=
  (aUn_eq (tkd G.1 G.2) tmi (aRun (tkd G.1 G.2) tmi tmt d) M_26 [] 3 (16, [some (.ref 98), some (.int x1)], [], σ)).trans rfl
theorem q_26_4732 (G : Nat × (Nat → Int32)) (d : Nat) (x1 : Int32) (s0 : Int32) (σ : aH) : Lq G d M_26 (21, [some (.ref 98), some (.int x1)], [.int s0, .ref 99], σ) = none :=
  (aUn_eq (tkd G.1 G.2) tmi (aRun (tkd G.1 G.2) tmi tmt d) M_26 [] 1 (21, [some (.ref 98), some (.int x1)], [.int s0, .ref 99], σ)).trans rfl
theorem q_26_4733 (G : Nat × (Nat → Int32)) (d : Nat) (x1 : Int32) (σ : aH) : Lq G d M_26 (7, [some (.ref 98), some (.int x1)], [], σ) = Lq G d M_26 (12, [some (.ref 98), some (.int x1)], [.int x1, .ref 99], σ) :=
  (aUn_eq (tkd G.1 G.2) tmi (aRun (tkd G.1 G.2) tmi tmt d) M_26 [] 3 (7, [some (.ref 98), some (.int x1)], [], σ)).trans rfl
theorem q_26_4734 (G : Nat × (Nat → Int32)) (d : Nat) (x1 : Int32) (s0 : Int32) (σ : aH) : Lq G d M_26 (12, [some (.ref 98), some (.int x1)], [.int s0, .ref 99], σ) = aCI (Rn G d 27 [.ref 99, .int s0] σ) fun v2 σ1 => Lq G d M_26 (15, [some (.ref 98), some (.int x1)], [.int v2], σ1) :=
  (aUn_eq (tkd G.1 G.2) tmi (aRun (tkd G.1 G.2) tmi tmt d) M_26 [] 1 (12, [some (.ref 98), some (.int x1)], [.int s0, .ref 99], σ)).trans rfl
theorem q_26_4735 (G : Nat × (Nat → Int32)) (d : Nat) (x1 : Int32) (s0 : Int32) (σ : aH) : Lq G d M_26 (15, [some (.ref 98), some (.int x1)], [.int s0], σ) = aNar .char (s0) (some (.inl (some (.int s0)), σ)) :=
  (aUn_eq (tkd G.1 G.2) tmi (aRun (tkd G.1 G.2) tmi tmt d) M_26 [] 1 (15, [some (.ref 98), some (.int x1)], [.int s0], σ)).trans rfl
theorem q_26_4736 (G : Nat × (Nat → Int32)) (d : Nat) (x1 : Int32) (σ : aH) : Lq G d M_26 (0, [some (.ref 100), some (.int x1)], [], σ) = Lq G d M_26 (1, [some (.ref 100), some (.int x1)], [.ref 100], σ) :=
  (aUn_eq (tkd G.1 G.2) tmi (aRun (tkd G.1 G.2) tmi tmt d) M_26 [] 1 (0, [some (.ref 100), some (.int x1)], [], σ)).trans rfl
theorem q_26_4737 (G : Nat × (Nat → Int32)) (d : Nat) (x1 : Int32) (σ : aH) : Lq G d M_26 (1, [some (.ref 100), some (.int x1)], [.ref 100], σ) = aCI (Rn G d 14 [.ref 100] σ) fun v2 σ1 => Lq G d M_26 (4, [some (.ref 100), some (.int x1)], [.int v2], σ1) :=
  (aUn_eq (tkd G.1 G.2) tmi (aRun (tkd G.1 G.2) tmi tmt d) M_26 [] 1 (1, [some (.ref 100), some (.int x1)], [.ref 100], σ)).trans rfl
theorem q_26_4738 (G : Nat × (Nat → Int32)) (d : Nat) (x1 : Int32) (s0 : Int32) (σ : aH) : Lq G d M_26 (4, [some (.ref 100), some (.int x1)], [.int s0], σ) = if s0 = 0 then Lq G d M_26 (16, [some (.ref 100), some (.int x1)], [], σ) else Lq G d M_26 (7, [some (.ref 100), some (.int x1)], [], σ) :=
  (aUn_eq (tkd G.1 G.2) tmi (aRun (tkd G.1 G.2) tmi tmt d) M_26 [] 1 (4, [some (.ref 100), some (.int x1)], [.int s0], σ)).trans rfl
theorem q_26_4739 (G : Nat × (Nat → Int32)) (d : Nat) (x1 : Int32) (σ : aH) : Lq G d M_26 (16, [some (.ref 100), some (.int x1)], [], σ) = Lq G d M_26 (21, [some (.ref 100), some (.int x1)], [.int x1, .ref 101], σ) :=
  (aUn_eq (tkd G.1 G.2) tmi (aRun (tkd G.1 G.2) tmi tmt d) M_26 [] 3 (16, [some (.ref 100), some (.int x1)], [], σ)).trans rfl
theorem q_26_4740 (G : Nat × (Nat → Int32)) (d : Nat) (x1 : Int32) (s0 : Int32) (σ : aH) : Lq G d M_26 (21, [some (.ref 100), some (.int x1)], [.int s0, .ref 101], σ) = none :=
  (aUn_eq (tkd G.1 G.2) tmi (aRun (tkd G.1 G.2) tmi tmt d) M_26 [] 1 (21, [some (.ref 100), some (.int x1)], [.int s0, .ref 101], σ)).trans rfl
theorem q_26_4741 (G : Nat × (Nat → Int32)) (d : Nat) (x1 : Int32) (σ : aH) : Lq G d M_26 (7, [some (.ref 100), some (.int x1)], [], σ) = Lq G d M_26 (12, [some (.ref 100), some (.int x1)], [.int x1, .ref 101], σ) :=
  (aUn_eq (tkd G.1 G.2) tmi (aRun (tkd G.1 G.2) tmi tmt d) M_26 [] 3 (7, [some (.ref 100), some (.int x1)], [], σ)).trans rfl
theorem q_26_4742 (G : Nat × (Nat → Int32)) (d : Nat) (x1 : Int32) (s0 : Int32) (σ : aH) : Lq G d M_26 (12, [some (.ref 100), some (.int x1)], [.int s0, .ref 101], σ) = aCI (Rn G d 27 [.ref 101, .int s0] σ) fun v2 σ1 => Lq G d M_26 (15, [some (.ref 100), some (.int x1)], [.int v2], σ1) :=
  (aUn_eq (tkd G.1 G.2) tmi (aRun (tkd G.1 G.2) tmi tmt d) M_26 [] 1 (12, [some (.ref 100), some (.int x1)], [.int s0, .ref 101], σ)).trans rfl
theorem q_26_4743 (G : Nat × (Nat → Int32)) (d : Nat) (x1 : Int32) (s0 : Int32) (σ : aH) : Lq G d M_26 (15, [some (.ref 100), some (.int x1)], [.int s0], σ) = aNar .char (s0) (some (.inl (some (.int s0)), σ)) :=
  (aUn_eq (tkd G.1 G.2) tmi (aRun (tkd G.1 G.2) tmi tmt d) M_26 [] 1 (15, [some (.ref 100), some (.int x1)], [.int s0], σ)).trans rfl
theorem q_26_4744 (G : Nat × (Nat → Int32)) (d : Nat) (x1 : Int32) (σ : aH) : Lq G d M_26 (0, [some (.ref 102), some (.int x1)], [], σ) = Lq G d M_26 (1, [some (.ref 102), some (.int x1)], [.ref 102], σ) :=
  (aUn_eq (tkd G.1 G.2) tmi (aRun (tkd G.1 G.2) tmi tmt d) M_26 [] 1 (0, [some (.ref 102), some (.int x1)], [], σ)).trans rfl
theorem q_26_4745 (G : Nat × (Nat → Int32)) (d : Nat) (x1 : Int32) (σ : aH) : Lq G d M_26 (1, [some (.ref 102), some (.int x1)], [.ref 102], σ) = aCI (Rn G d 14 [.ref 102] σ) fun v2 σ1 => Lq G d M_26 (4, [some (.ref 102), some (.int x1)], [.int v2], σ1) :=
  (aUn_eq (tkd G.1 G.2) tmi (aRun (tkd G.1 G.2) tmi tmt d) M_26 [] 1 (1, [some (.ref 102), some (.int x1)], [.ref 102], σ)).trans rfl
theorem q_26_4746 (G : Nat × (Nat → Int32)) (d : Nat) (x1 : Int32) (s0 : Int32) (σ : aH) : Lq G d M_26 (4, [some (.ref 102), some (.int x1)], [.int s0], σ) = if s0 = 0 then Lq G d M_26 (16, [some (.ref 102), some (.int x1)], [], σ) else Lq G d M_26 (7, [some (.ref 102), some (.int x1)], [], σ) :=
  (aUn_eq (tkd G.1 G.2) tmi (aRun (tkd G.1 G.2) tmi tmt d) M_26 [] 1 (4, [some (.ref 102), some (.int x1)], [.int s0], σ)).trans rfl
theorem q_26_4747 (G : Nat × (Nat → Int32)) (d : Nat) (x1 : Int32) (σ : aH) : Lq G d M_26 (16, [some (.ref 102), some (.int x1)], [], σ) = Lq G d M_26 (21, [some (.ref 102), some (.int x1)], [.int x1, .ref 103], σ) :=
  (aUn_eq (tkd G.1 G.2) tmi (aRun (tkd G.1 G.2) tmi tmt d) M_26 [] 3 (16, [some (.ref 102), some (.int x1)], [], σ)).trans rfl
theorem q_26_4748 (G : Nat × (Nat → Int32)) (d : Nat) (x1 : Int32) (s0 : Int32) (σ : aH) : Lq G d M_26 (21, [some (.ref 102), some (.int x1)], [.int s0, .ref 103], σ) = none :=
  (aUn_eq (tkd G.1 G.2) tmi (aRun (tkd G.1 G.2) tmi tmt d) M_26 [] 1 (21, [some (.ref 102), some (.int x1)], [.int s0, .ref 103], σ)).trans rfl
theorem q_26_4749 (G : Nat × (Nat → Int32)) (d : Nat) (x1 : Int32) (σ : aH) : Lq G d M_26 (7, [some (.ref 102), some (.int x1)], [], σ) = Lq G d M_26 (12, [some (.ref 102), some (.int x1)], [.int x1, .ref 103], σ) :=
  (aUn_eq (tkd G.1 G.2) tmi (aRun (tkd G.1 G.2) tmi tmt d) M_26 [] 3 (7, [some (.ref 102), some (.int x1)], [], σ)).trans rfl
theorem q_26_4750 (G : Nat × (Nat → Int32)) (d : Nat) (x1 : Int32) (s0 : Int32) (σ : aH) : Lq G d M_26 (12, [some (.ref 102), some (.int x1)], [.int s0, .ref 103], σ) = aCI (Rn G d 27 [.ref 103, .int s0] σ) fun v2 σ1 => Lq G d M_26 (15, [some (.ref 102), some (.int x1)], [.int v2], σ1) :=
  (aUn_eq (tkd G.1 G.2) tmi (aRun (tkd G.1 G.2) tmi tmt d) M_26 [] 1 (12, [some (.ref 102), some (.int x1)], [.int s0, .ref 103], σ)).trans rfl
theorem q_26_4751 (G : Nat × (Nat → Int32)) (d : Nat) (x1 : Int32) (s0 : Int32) (σ : aH) : Lq G d M_26 (15, [some (.ref 102), some (.int x1)], [.int s0], σ) = aNar .char (s0) (some (.inl (some (.int s0)), σ)) :=
  (aUn_eq (tkd G.1 G.2) tmi (aRun (tkd G.1 G.2) tmi tmt d) M_26 [] 1 (15, [some (.ref 102), some (.int x1)], [.int s0], σ)).trans rfl
theorem q_26_4752 (G : Nat × (Nat → Int32)) (d : Nat) (x1 : Int32) (σ : aH) : Lq G d M_26 (0, [some (.ref 104), some (.int x1)], [], σ) = Lq G d M_26 (1, [some (.ref 104), some (.int x1)], [.ref 104], σ) :=
  (aUn_eq (tkd G.1 G.2) tmi (aRun (tkd G.1 G.2) tmi tmt d) M_26 [] 1 (0, [some (.ref 104), some (.int x1)], [], σ)).trans rfl
theorem q_26_4753 (G : Nat × (Nat → Int32)) (d : Nat) (x1 : Int32) (σ : aH) : Lq G d M_26 (1, [some (.ref 104), some (.int x1)], [.ref 104], σ) = aCI (Rn G d 14 [.ref 104] σ) fun v2 σ1 => Lq G d M_26 (4, [some (.ref 104), some (.int x1)], [.int v2], σ1) :=
  (aUn_eq (tkd G.1 G.2) tmi (aRun (tkd G.1 G.2) tmi tmt d) M_26 [] 1 (1, [some (.ref 104), some (.int x1)], [.ref 104], σ)).trans rfl
theorem q_26_4754 (G : Nat × (Nat → Int32)) (d : Nat) (x1 : Int32) (s0 : Int32) (σ : aH) : Lq G d M_26 (4, [some (.ref 104), some (.int x1)], [.int s0], σ) = if s0 = 0 then Lq G d M_26 (16, [some (.ref 104), some (.int x1)], [], σ) else Lq G d M_26 (7, [some (.ref 104), some (.int x1)], [], σ) :=
  (aUn_eq (tkd G.1 G.2) tmi (aRun (tkd G.1 G.2) tmi tmt d) M_26 [] 1 (4, [some (.ref 104), some (.int x1)], [.int s0], σ)).trans rfl
theorem q_26_4755 (G : Nat × (Nat → Int32)) (d : Nat) (x1 : Int32) (σ : aH) : Lq G d M_26 (16, [some (.ref 104), some (.int x1)], [], σ) = Lq G d M_26 (21, [some (.ref 104), some (.int x1)], [.int x1, .ref 105], σ) :=
  (aUn_eq (tkd G.1 G.2) tmi (aRun (tkd G.1 G.2) tmi tmt d) M_26 [] 3 (16, [some (.ref 104), some (.int x1)], [], σ)).trans rfl
theorem q_26_4756 (G : Nat × (Nat → Int32)) (d : Nat) (x1 : Int32) (s0 : Int32) (σ : aH) : Lq G d M_26 (21, [some (.ref 104), some (.int x1)], [.int s0, .ref 105], σ) = none :=
  (aUn_eq (tkd G.1 G.2) tmi (aRun (tkd G.1 G.2) tmi tmt d) M_26 [] 1 (21, [some (.ref 104), some (.int x1)], [.int s0, .ref 105], σ)).trans rfl
theorem q_26_4757 (G : Nat × (Nat → Int32)) (d : Nat) (x1 : Int32) (σ : aH) : Lq G d M_26 (7, [some (.ref 104), some (.int x1)], [], σ) = Lq G d M_26 (12, [some (.ref 104), some (.int x1)], [.int x1, .ref 105], σ) :=
  (aUn_eq (tkd G.1 G.2) tmi (aRun (tkd G.1 G.2) tmi tmt d) M_26 [] 3 (7, [some (.ref 104), some (.int x1)], [], σ)).trans rfl
theorem q_26_4758 (G : Nat × (Nat → Int32)) (d : Nat) (x1 : Int32) (s0 : Int32) (σ : aH) : Lq G d M_26 (12, [some (.ref 104), some (.int x1)], [.int s0, .ref 105], σ) = aCI (Rn G d 27 [.ref 105, .int s0] σ) fun v2 σ1 => Lq G d M_26 (15, [some (.ref 104), some (.int x1)], [.int v2], σ1) :=
  (aUn_eq (tkd G.1 G.2) tmi (aRun (tkd G.1 G.2) tmi tmt d) M_26 [] 1 (12, [some (.ref 104), some (.int x1)], [.int s0, .ref 105], σ)).trans rfl
theorem q_26_4759 (G : Nat × (Nat → Int32)) (d : Nat) (x1 : Int32) (s0 : Int32) (σ : aH) : Lq G d M_26 (15, [some (.ref 104), some (.int x1)], [.int s0], σ) = aNar .char (s0) (some (.inl (some (.int s0)), σ)) :=
  (aUn_eq (tkd G.1 G.2) tmi (aRun (tkd G.1 G.2) tmi tmt d) M_26 [] 1 (15, [some (.ref 104), some (.int x1)], [.int s0], σ)).trans rfl
theorem q_26_4760 (G : Nat × (Nat → Int32)) (d : Nat) (x1 : Int32) (σ : aH) : Lq G d M_26 (0, [some (.ref 106), some (.int x1)], [], σ) = Lq G d M_26 (1, [some (.ref 106), some (.int x1)], [.ref 106], σ) :=
  (aUn_eq (tkd G.1 G.2) tmi (aRun (tkd G.1 G.2) tmi tmt d) M_26 [] 1 (0, [some (.ref 106), some (.int x1)], [], σ)).trans rfl
theorem q_26_4761 (G : Nat × (Nat → Int32)) (d : Nat) (x1 : Int32) (σ : aH) : Lq G d M_26 (1, [some (.ref 106), some (.int x1)], [.ref 106], σ) = aCI (Rn G d 14 [.ref 106] σ) fun v2 σ1 => Lq G d M_26 (4, [some (.ref 106), some (.int x1)], [.int v2], σ1) :=
  (aUn_eq (tkd G.1 G.2) tmi (aRun (tkd G.1 G.2) tmi tmt d) M_26 [] 1 (1, [some (.ref 106), some (.int x1)], [.ref 106], σ)).trans rfl
theorem q_26_4762 (G : Nat × (Nat → Int32)) (d : Nat) (x1 : Int32) (s0 : Int32) (σ : aH) : Lq G d M_26 (4, [some (.ref 106), some (.int x1)], [.int s0], σ) = if s0 = 0 then Lq G d M_26 (16, [some (.ref 106), some (.int x1)], [], σ) else Lq G d M_26 (7, [some (.ref 106), some (.int x1)], [], σ) :=
  (aUn_eq (tkd G.1 G.2) tmi (aRun (tkd G.1 G.2) tmi tmt d) M_26 [] 1 (4, [some (.ref 106), some (.int x1)], [.int s0], σ)).trans rfl
theorem q_26_4763 (G : Nat × (Nat → Int32)) (d : Nat) (x1 : Int32) (σ : aH) : Lq G d M_26 (16, [some (.ref 106), some (.int x1)], [], σ) = Lq G d M_26 (21, [some (.ref 106), some (.int x1)], [.int x1, .ref 107], σ) :=
  (aUn_eq (tkd G.1 G.2) tmi (aRun (tkd G.1 G.2) tmi tmt d) M_26 [] 3 (16, [some (.ref 106), some (.int x1)], [], σ)).trans rfl
theorem q_26_4764 (G : Nat × (Nat → Int32)) (d : Nat) (x1 : Int32) (s0 : Int32) (σ : aH) : Lq G d M_26 (21, [some (.ref 106), some (.int x1)], [.int s0, .ref 107], σ) = none :=
  (aUn_eq (tkd G.1 G.2) tmi (aRun (tkd G.1 G.2) tmi tmt d) M_26 [] 1 (21, [some (.ref 106), some (.int x1)], [.int s0, .ref 107], σ)).trans rfl
theorem q_26_4765 (G : Nat × (Nat → Int32)) (d : Nat) (x1 : Int32) (σ : aH) : Lq G d M_26 (7, [some (.ref 106), some (.int x1)], [], σ) = Lq G d M_26 (12, [some (.ref 106), some (.int x1)], [.int x1, .ref 107], σ) :=
  (aUn_eq (tkd G.1 G.2) tmi (aRun (tkd G.1 G.2) tmi tmt d) M_26 [] 3 (7, [some (.ref 106), some (.int x1)], [], σ)).trans rfl
theorem q_26_4766 (G : Nat × (Nat → Int32)) (d : Nat) (x1 : Int32) (s0 : Int32) (σ : aH) : Lq G d M_26 (12, [some (.ref 106), some (.int x1)], [.int s0, .ref 107], σ) = aCI (Rn G d 27 [.ref 107, .int s0] σ) fun v2 σ1 => Lq G d M_26 (15, [some (.ref 106), some (.int x1)], [.int v2], σ1) :=
  (aUn_eq (tkd G.1 G.2) tmi (aRun (tkd G.1 G.2) tmi tmt d) M_26 [] 1 (12, [some (.ref 106), some (.int x1)], [.int s0, .ref 107], σ)).trans rfl
theorem q_26_4767 (G : Nat × (Nat → Int32)) (d : Nat) (x1 : Int32) (s0 : Int32) (σ : aH) : Lq G d M_26 (15, [some (.ref 106), some (.int x1)], [.int s0], σ) = aNar .char (s0) (some (.inl (some (.int s0)), σ)) :=
  (aUn_eq (tkd G.1 G.2) tmi (aRun (tkd G.1 G.2) tmi tmt d) M_26 [] 1 (15, [some (.ref 106), some (.int x1)], [.int s0], σ)).trans rfl
theorem q_26_4768 (G : Nat × (Nat → Int32)) (d : Nat) (x1 : Int32) (σ : aH) : Lq G d M_26 (0, [some (.ref 108), some (.int x1)], [], σ) = Lq G d M_26 (1, [some (.ref 108), some (.int x1)], [.ref 108], σ) :=
  (aUn_eq (tkd G.1 G.2) tmi (aRun (tkd G.1 G.2) tmi tmt d) M_26 [] 1 (0, [some (.ref 108), some (.int x1)], [], σ)).trans rfl
theorem q_26_4769 (G : Nat × (Nat → Int32)) (d : Nat) (x1 : Int32) (σ : aH) : Lq G d M_26 (1, [some (.ref 108), some (.int x1)], [.ref 108], σ) = aCI (Rn G d 14 [.ref 108] σ) fun v2 σ1 => Lq G d M_26 (4, [some (.ref 108), some (.int x1)], [.int v2], σ1) :=
  (aUn_eq (tkd G.1 G.2) tmi (aRun (tkd G.1 G.2) tmi tmt d) M_26 [] 1 (1, [some (.ref 108), some (.int x1)], [.ref 108], σ)).trans rfl
theorem q_26_4770 (G : Nat × (Nat → Int32)) (d : Nat) (x1 : Int32) (s0 : Int32) (σ : aH) : Lq G d M_26 (4, [some (.ref 108), some (.int x1)], [.int s0], σ) = if s0 = 0 then Lq G d M_26 (16, [some (.ref 108), some (.int x1)], [], σ) else Lq G d M_26 (7, [some (.ref 108), some (.int x1)], [], σ) :=
  (aUn_eq (tkd G.1 G.2) tmi (aRun (tkd G.1 G.2) tmi tmt d) M_26 [] 1 (4, [some (.ref 108), some (.int x1)], [.int s0], σ)).trans rfl
theorem q_26_4771 (G : Nat × (Nat → Int32)) (d : Nat) (x1 : Int32) (σ : aH) : Lq G d M_26 (16, [some (.ref 108), some (.int x1)], [], σ) = Lq G d M_26 (21, [some (.ref 108), some (.int x1)], [.int x1, .ref 109], σ) :=
  (aUn_eq (tkd G.1 G.2) tmi (aRun (tkd G.1 G.2) tmi tmt d) M_26 [] 3 (16, [some (.ref 108), some (.int x1)], [], σ)).trans rfl
theorem q_26_4772 (G : Nat × (Nat → Int32)) (d : Nat) (x1 : Int32) (s0 : Int32) (σ : aH) : Lq G d M_26 (21, [some (.ref 108), some (.int x1)], [.int s0, .ref 109], σ) = none :=
  (aUn_eq (tkd G.1 G.2) tmi (aRun (tkd G.1 G.2) tmi tmt d) M_26 [] 1 (21, [some (.ref 108), some (.int x1)], [.int s0, .ref 109], σ)).trans rfl
theorem q_26_4773 (G : Nat × (Nat → Int32)) (d : Nat) (x1 : Int32) (σ : aH) : Lq G d M_26 (7, [some (.ref 108), some (.int x1)], [], σ) = Lq G d M_26 (12, [some (.ref 108), some (.int x1)], [.int x1, .ref 109], σ) :=
  (aUn_eq (tkd G.1 G.2) tmi (aRun (tkd G.1 G.2) tmi tmt d) M_26 [] 3 (7, [some (.ref 108), some (.int x1)], [], σ)).trans rfl
theorem q_26_4774 (G : Nat × (Nat → Int32)) (d : Nat) (x1 : Int32) (s0 : Int32) (σ : aH) : Lq G d M_26 (12, [some (.ref 108), some (.int x1)], [.int s0, .ref 109], σ) = aCI (Rn G d 27 [.ref 109, .int s0] σ) fun v2 σ1 => Lq G d M_26 (15, [some (.ref 108), some (.int x1)], [.int v2], σ1) :=
  (aUn_eq (tkd G.1 G.2) tmi (aRun (tkd G.1 G.2) tmi tmt d) M_26 [] 1 (12, [some (.ref 108), some (.int x1)], [.int s0, .ref 109], σ)).trans rfl
theorem q_26_4775 (G : Nat × (Nat → Int32)) (d : Nat) (x1 : Int32) (s0 : Int32) (σ : aH) : Lq G d M_26 (15, [some (.ref 108), some (.int x1)], [.int s0], σ) = aNar .char (s0) (some (.inl (some (.int s0)), σ)) :=
  (aUn_eq (tkd G.1 G.2) tmi (aRun (tkd G.1 G.2) tmi tmt d) M_26 [] 1 (15, [some (.ref 108), some (.int x1)], [.int s0], σ)).trans rfl
theorem q_26_4776 (G : Nat × (Nat → Int32)) (d : Nat) (x1 : Int32) (σ : aH) : Lq G d M_26 (0, [some (.ref 110), some (.int x1)], [], σ) = Lq G d M_26 (1, [some (.ref 110), some (.int x1)], [.ref 110], σ) :=
  (aUn_eq (tkd G.1 G.2) tmi (aRun (tkd G.1 G.2) tmi tmt d) M_26 [] 1 (0, [some (.ref 110), some (.int x1)], [], σ)).trans rfl
theorem q_26_4777 (G : Nat × (Nat → Int32)) (d : Nat) (x1 : Int32) (σ : aH) : Lq G d M_26 (1, [some (.ref 110), some (.int x1)], [.ref 110], σ) = aCI (Rn G d 14 [.ref 110] σ) fun v2 σ1 => Lq G d M_26 (4, [some (.ref 110), some (.int x1)], [.int v2], σ1) :=
  (aUn_eq (tkd G.1 G.2) tmi (aRun (tkd G.1 G.2) tmi tmt d) M_26 [] 1 (1, [some (.ref 110), some (.int x1)], [.ref 110], σ)).trans rfl
theorem q_26_4778 (G : Nat × (Nat → Int32)) (d : Nat) (x1 : Int32) (s0 : Int32) (σ : aH) : Lq G d M_26 (4, [some (.ref 110), some (.int x1)], [.int s0], σ) = if s0 = 0 then Lq G d M_26 (16, [some (.ref 110), some (.int x1)], [], σ) else Lq G d M_26 (7, [some (.ref 110), some (.int x1)], [], σ) :=
  (aUn_eq (tkd G.1 G.2) tmi (aRun (tkd G.1 G.2) tmi tmt d) M_26 [] 1 (4, [some (.ref 110), some (.int x1)], [.int s0], σ)).trans rfl
theorem q_26_4779 (G : Nat × (Nat → Int32)) (d : Nat) (x1 : Int32) (σ : aH) : Lq G d M_26 (16, [some (.ref 110), some (.int x1)], [], σ) = Lq G d M_26 (21, [some (.ref 110), some (.int x1)], [.int x1, .ref 111], σ) :=
  (aUn_eq (tkd G.1 G.2) tmi (aRun (tkd G.1 G.2) tmi tmt d) M_26 [] 3 (16, [some (.ref 110), some (.int x1)], [], σ)).trans rfl
theorem q_26_4780 (G : Nat × (Nat → Int32)) (d : Nat) (x1 : Int32) (s0 : Int32) (σ : aH) : Lq G d M_26 (21, [some (.ref 110), some (.int x1)], [.int s0, .ref 111], σ) = none :=
  (aUn_eq (tkd G.1 G.2) tmi (aRun (tkd G.1 G.2) tmi tmt d) M_26 [] 1 (21, [some (.ref 110), some (.int x1)], [.int s0, .ref 111], σ)).trans rfl
theorem q_26_4781 (G : Nat × (Nat → Int32)) (d : Nat) (x1 : Int32) (σ : aH) : Lq G d M_26 (7, [some (.ref 110), some (.int x1)], [], σ) = Lq G d M_26 (12, [some (.ref 110), some (.int x1)], [.int x1, .ref 111], σ) :=
  (aUn_eq (tkd G.1 G.2) tmi (aRun (tkd G.1 G.2) tmi tmt d) M_26 [] 3 (7, [some (.ref 110), some (.int x1)], [], σ)).trans rfl
theorem q_26_4782 (G : Nat × (Nat → Int32)) (d : Nat) (x1 : Int32) (s0 : Int32) (σ : aH) : Lq G d M_26 (12, [some (.ref 110), some (.int x1)], [.int s0, .ref 111], σ) = aCI (Rn G d 27 [.ref 111, .int s0] σ) fun v2 σ1 => Lq G d M_26 (15, [some (.ref 110), some (.int x1)], [.int v2], σ1) :=
  (aUn_eq (tkd G.1 G.2) tmi (aRun (tkd G.1 G.2) tmi tmt d) M_26 [] 1 (12, [some (.ref 110), some (.int x1)], [.int s0, .ref 111], σ)).trans rfl
theorem q_26_4783 (G : Nat × (Nat → Int32)) (d : Nat) (x1 : Int32) (s0 : Int32) (σ : aH) : Lq G d M_26 (15, [some (.ref 110), some (.int x1)], [.int s0], σ) = aNar .char (s0) (some (.inl (some (.int s0)), σ)) :=
  (aUn_eq (tkd G.1 G.2) tmi (aRun (tkd G.1 G.2) tmi tmt d) M_26 [] 1 (15, [some (.ref 110), some (.int x1)], [.int s0], σ)).trans rfl
theorem q_26_4784 (G : Nat × (Nat → Int32)) (d : Nat) (x1 : Int32) (σ : aH) : Lq G d M_26 (0, [some (.ref 112), some (.int x1)], [], σ) = Lq G d M_26 (1, [some (.ref 112), some (.int x1)], [.ref 112], σ) :=
  (aUn_eq (tkd G.1 G.2) tmi (aRun (tkd G.1 G.2) tmi tmt d) M_26 [] 1 (0, [some (.ref 112), some (.int x1)], [], σ)).trans rfl
theorem q_26_4785 (G : Nat × (Nat → Int32)) (d : Nat) (x1 : Int32) (σ : aH) : Lq G d M_26 (1, [some (.ref 112), some (.int x1)], [.ref 112], σ) = aCI (Rn G d 14 [.ref 112] σ) fun v2 σ1 => Lq G d M_26 (4, [some (.ref 112), some (.int x1)], [.int v2], σ1) :=
  (aUn_eq (tkd G.1 G.2) tmi (aRun (tkd G.1 G.2) tmi tmt d) M_26 [] 1 (1, [some (.ref 112), some (.int x1)], [.ref 112], σ)).trans rfl
theorem q_26_4786 (G : Nat × (Nat → Int32)) (d : Nat) (x1 : Int32) (s0 : Int32) (σ : aH) : Lq G d M_26 (4, [some (.ref 112), some (.int x1)], [.int s0], σ) = if s0 = 0 then Lq G d M_26 (16, [some (.ref 112), some (.int x1)], [], σ) else Lq G d M_26 (7, [some (.ref 112), some (.int x1)], [], σ) :=
  (aUn_eq (tkd G.1 G.2) tmi (aRun (tkd G.1 G.2) tmi tmt d) M_26 [] 1 (4, [some (.ref 112), some (.int x1)], [.int s0], σ)).trans rfl
theorem q_26_4787 (G : Nat × (Nat → Int32)) (d : Nat) (x1 : Int32) (σ : aH) : Lq G d M_26 (16, [some (.ref 112), some (.int x1)], [], σ) = Lq G d M_26 (21, [some (.ref 112), some (.int x1)], [.int x1, .ref 113], σ) :=
  (aUn_eq (tkd G.1 G.2) tmi (aRun (tkd G.1 G.2) tmi tmt d) M_26 [] 3 (16, [some (.ref 112), some (.int x1)], [], σ)).trans rfl
theorem q_26_4788 (G : Nat × (Nat → Int32)) (d : Nat) (x1 : Int32) (s0 : Int32) (σ : aH) : Lq G d M_26 (21, [some (.ref 112), some (.int x1)], [.int s0, .ref 113], σ) = none :=
  (aUn_eq (tkd G.1 G.2) tmi (aRun (tkd G.1 G.2) tmi tmt d) M_26 [] 1 (21, [some (.ref 112), some (.int x1)], [.int s0, .ref 113], σ)).trans rfl
theorem q_26_4789 (G : Nat × (Nat → Int32)) (d : Nat) (x1 : Int32) (σ : aH) : Lq G d M_26 (7, [some (.ref 112), some (.int x1)], [], σ) = Lq G d M_26 (12, [some (.ref 112), some (.int x1)], [.int x1, .ref 113], σ) :=
  (aUn_eq (tkd G.1 G.2) tmi (aRun (tkd G.1 G.2) tmi tmt d) M_26 [] 3 (7, [some (.ref 112), some (.int x1)], [], σ)).trans rfl
theorem q_26_4790 (G : Nat × (Nat → Int32)) (d : Nat) (x1 : Int32) (s0 : Int32) (σ : aH) : Lq G d M_26 (12, [some (.ref 112), some (.int x1)], [.int s0, .ref 113], σ) = aCI (Rn G d 27 [.ref 113, .int s0] σ) fun v2 σ1 => Lq G d M_26 (15, [some (.ref 112), some (.int x1)], [.int v2], σ1) :=
  (aUn_eq (tkd G.1 G.2) tmi (aRun (tkd G.1 G.2) tmi tmt d) M_26 [] 1 (12, [some (.ref 112), some (.int x1)], [.int s0, .ref 113], σ)).trans rfl
theorem q_26_4791 (G : Nat × (Nat → Int32)) (d : Nat) (x1 : Int32) (s0 : Int32) (σ : aH) : Lq G d M_26 (15, [some (.ref 112), some (.int x1)], [.int s0], σ) = aNar .char (s0) (some (.inl (some (.int s0)), σ)) :=
  (aUn_eq (tkd G.1 G.2) tmi (aRun (tkd G.1 G.2) tmi tmt d) M_26 [] 1 (15, [some (.ref 112), some (.int x1)], [.int s0], σ)).trans rfl
theorem q_26_4792 (G : Nat × (Nat → Int32)) (d : Nat) (x1 : Int32) (σ : aH) : Lq G d M_26 (0, [some (.ref 114), some (.int x1)], [], σ) = Lq G d M_26 (1, [some (.ref 114), some (.int x1)], [.ref 114], σ) :=
  (aUn_eq (tkd G.1 G.2) tmi (aRun (tkd G.1 G.2) tmi tmt d) M_26 [] 1 (0, [some (.ref 114), some (.int x1)], [], σ)).trans rfl
theorem q_26_4793 (G : Nat × (Nat → Int32)) (d : Nat) (x1 : Int32) (σ : aH) : Lq G d M_26 (1, [some (.ref 114), some (.int x1)], [.ref 114], σ) = aCI (Rn G d 14 [.ref 114] σ) fun v2 σ1 => Lq G d M_26 (4, [some (.ref 114), some (.int x1)], [.int v2], σ1) :=
  (aUn_eq (tkd G.1 G.2) tmi (aRun (tkd G.1 G.2) tmi tmt d) M_26 [] 1 (1, [some (.ref 114), some (.int x1)], [.ref 114], σ)).trans rfl
theorem q_26_4794 (G : Nat × (Nat → Int32)) (d : Nat) (x1 : Int32) (s0 : Int32) (σ : aH) : Lq G d M_26 (4, [some (.ref 114), some (.int x1)], [.int s0], σ) = if s0 = 0 then Lq G d M_26 (16, [some (.ref 114), some (.int x1)], [], σ) else Lq G d M_26 (7, [some (.ref 114), some (.int x1)], [], σ) :=
  (aUn_eq (tkd G.1 G.2) tmi (aRun (tkd G.1 G.2) tmi tmt d) M_26 [] 1 (4, [some (.ref 114), some (.int x1)], [.int s0], σ)).trans rfl
theorem q_26_4795 (G : Nat × (Nat → Int32)) (d : Nat) (x1 : Int32) (σ : aH) : Lq G d M_26 (16, [some (.ref 114), some (.int x1)], [], σ) = Lq G d M_26 (21, [some (.ref 114), some (.int x1)], [.int x1, .ref 115], σ) :=
  (aUn_eq (tkd G.1 G.2) tmi (aRun (tkd G.1 G.2) tmi tmt d) M_26 [] 3 (16, [some (.ref 114), some (.int x1)], [], σ)).trans rfl
theorem q_26_4796 (G : Nat × (Nat → Int32)) (d : Nat) (x1 : Int32) (s0 : Int32) (σ : aH) : Lq G d M_26 (21, [some (.ref 114), some (.int x1)], [.int s0, .ref 115], σ) = none :=
  (aUn_eq (tkd G.1 G.2) tmi (aRun (tkd G.1 G.2) tmi tmt d) M_26 [] 1 (21, [some (.ref 114), some (.int x1)], [.int s0, .ref 115], σ)).trans rfl
theorem q_26_4797 (G : Nat × (Nat → Int32)) (d : Nat) (x1 : Int32) (σ : aH) : Lq G d M_26 (7, [some (.ref 114), some (.int x1)], [], σ) = Lq G d M_26 (12, [some (.ref 114), some (.int x1)], [.int x1, .ref 115], σ) :=
  (aUn_eq (tkd G.1 G.2) tmi (aRun (tkd G.1 G.2) tmi tmt d) M_26 [] 3 (7, [some (.ref 114), some (.int x1)], [], σ)).trans rfl
theorem q_26_4798 (G : Nat × (Nat → Int32)) (d : Nat) (x1 : Int32) (s0 : Int32) (σ : aH) : Lq G d M_26 (12, [some (.ref 114), some (.int x1)], [.int s0, .ref 115], σ) = aCI (Rn G d 27 [.ref 115, .int s0] σ) fun v2 σ1 => Lq G d M_26 (15, [some (.ref 114), some (.int x1)], [.int v2], σ1) :=
  (aUn_eq (tkd G.1 G.2) tmi (aRun (tkd G.1 G.2) tmi tmt d) M_26 [] 1 (12, [some (.ref 114), some (.int x1)], [.int s0, .ref 115], σ)).trans rfl
theorem q_26_4799 (G : Nat × (Nat → Int32)) (d : Nat) (x1 : Int32) (s0 : Int32) (σ : aH) : Lq G d M_26 (15, [some (.ref 114), some (.int x1)], [.int s0], σ) = aNar .char (s0) (some (.inl (some (.int s0)), σ)) :=
  (aUn_eq (tkd G.1 G.2) tmi (aRun (tkd G.1 G.2) tmi tmt d) M_26 [] 1 (15, [some (.ref 114), some (.int x1)], [.int s0], σ)).trans rfl
theorem q_26_4800 (G : Nat × (Nat → Int32)) (d : Nat) (x1 : Int32) (σ : aH) : Lq G d M_26 (0, [some (.ref 116), some (.int x1)], [], σ) = Lq G d M_26 (1, [some (.ref 116), some (.int x1)], [.ref 116], σ) :=
  (aUn_eq (tkd G.1 G.2) tmi (aRun (tkd G.1 G.2) tmi tmt d) M_26 [] 1 (0, [some (.ref 116), some (.int x1)], [], σ)).trans rfl
theorem q_26_4801 (G : Nat × (Nat → Int32)) (d : Nat) (x1 : Int32) (σ : aH) : Lq G d M_26 (1, [some (.ref 116), some (.int x1)], [.ref 116], σ) = aCI (Rn G d 14 [.ref 116] σ) fun v2 σ1 => Lq G d M_26 (4, [some (.ref 116), some (.int x1)], [.int v2], σ1) :=
  (aUn_eq (tkd G.1 G.2) tmi (aRun (tkd G.1 G.2) tmi tmt d) M_26 [] 1 (1, [some (.ref 116), some (.int x1)], [.ref 116], σ)).trans rfl
theorem q_26_4802 (G : Nat × (Nat → Int32)) (d : Nat) (x1 : Int32) (s0 : Int32) (σ : aH) : Lq G d M_26 (4, [some (.ref 116), some (.int x1)], [.int s0], σ) = if s0 = 0 then Lq G d M_26 (16, [some (.ref 116), some (.int x1)], [], σ) else Lq G d M_26 (7, [some (.ref 116), some (.int x1)], [], σ) :=
  (aUn_eq (tkd G.1 G.2) tmi (aRun (tkd G.1 G.2) tmi tmt d) M_26 [] 1 (4, [some (.ref 116), some (.int x1)], [.int s0], σ)).trans rfl
theorem q_26_4803 (G : Nat × (Nat → Int32)) (d : Nat) (x1 : Int32) (σ : aH) : Lq G d M_26 (16, [some (.ref 116), some (.int x1)], [], σ) = Lq G d M_26 (21, [some (.ref 116), some (.int x1)], [.int x1, .ref 117], σ) :=
  (aUn_eq (tkd G.1 G.2) tmi (aRun (tkd G.1 G.2) tmi tmt d) M_26 [] 3 (16, [some (.ref 116), some (.int x1)], [], σ)).trans rfl
theorem q_26_4804 (G : Nat × (Nat → Int32)) (d : Nat) (x1 : Int32) (s0 : Int32) (σ : aH) : Lq G d M_26 (21, [some (.ref 116), some (.int x1)], [.int s0, .ref 117], σ) = none :=
  (aUn_eq (tkd G.1 G.2) tmi (aRun (tkd G.1 G.2) tmi tmt d) M_26 [] 1 (21, [some (.ref 116), some (.int x1)], [.int s0, .ref 117], σ)).trans rfl
theorem q_26_4805 (G : Nat × (Nat → Int32)) (d : Nat) (x1 : Int32) (σ : aH) : Lq G d M_26 (7, [some (.ref 116), some (.int x1)], [], σ) = Lq G d M_26 (12, [some (.ref 116), some (.int x1)], [.int x1, .ref 117], σ) :=
  (aUn_eq (tkd G.1 G.2) tmi (aRun (tkd G.1 G.2) tmi tmt d) M_26 [] 3 (7, [some (.ref 116), some (.int x1)], [], σ)).trans rfl
theorem q_26_4806 (G : Nat × (Nat → Int32)) (d : Nat) (x1 : Int32) (s0 : Int32) (σ : aH) : Lq G d M_26 (12, [some (.ref 116), some (.int x1)], [.int s0, .ref 117], σ) = aCI (Rn G d 27 [.ref 117, .int s0] σ) fun v2 σ1 => Lq G d M_26 (15, [some (.ref 116), some (.int x1)], [.int v2], σ1) :=
  (aUn_eq (tkd G.1 G.2) tmi (aRun (tkd G.1 G.2) tmi tmt d) M_26 [] 1 (12, [some (.ref 116), some (.int x1)], [.int s0, .ref 117], σ)).trans rfl
theorem q_26_4807 (G : Nat × (Nat → Int32)) (d : Nat) (x1 : Int32) (s0 : Int32) (σ : aH) : Lq G d M_26 (15, [some (.ref 116), some (.int x1)], [.int s0], σ) = aNar .char (s0) (some (.inl (some (.int s0)), σ)) :=
  (aUn_eq (tkd G.1 G.2) tmi (aRun (tkd G.1 G.2) tmi tmt d) M_26 [] 1 (15, [some (.ref 116), some (.int x1)], [.int s0], σ)).trans rfl
theorem q_26_4808 (G : Nat × (Nat → Int32)) (d : Nat) (x1 : Int32) (σ : aH) : Lq G d M_26 (0, [some (.ref 118), some (.int x1)], [], σ) = Lq G d M_26 (1, [some (.ref 118), some (.int x1)], [.ref 118], σ) :=
  (aUn_eq (tkd G.1 G.2) tmi (aRun (tkd G.1 G.2) tmi tmt d) M_26 [] 1 (0, [some (.ref 118), some (.int x1)], [], σ)).trans rfl
theorem q_26_4809 (G : Nat × (Nat → Int32)) (d : Nat) (x1 : Int32) (σ : aH) : Lq G d M_26 (1, [some (.ref 118), some (.int x1)], [.ref 118], σ) = aCI (Rn G d 14 [.ref 118] σ) fun v2 σ1 => Lq G d M_26 (4, [some (.ref 118), some (.int x1)], [.int v2], σ1) :=
  (aUn_eq (tkd G.1 G.2) tmi (aRun (tkd G.1 G.2) tmi tmt d) M_26 [] 1 (1, [some (.ref 118), some (.int x1)], [.ref 118], σ)).trans rfl
theorem q_26_4810 (G : Nat × (Nat → Int32)) (d : Nat) (x1 : Int32) (s0 : Int32) (σ : aH) : Lq G d M_26 (4, [some (.ref 118), some (.int x1)], [.int s0], σ) = if s0 = 0 then Lq G d M_26 (16, [some (.ref 118), some (.int x1)], [], σ) else Lq G d M_26 (7, [some (.ref 118), some (.int x1)], [], σ) :=
  (aUn_eq (tkd G.1 G.2) tmi (aRun (tkd G.1 G.2) tmi tmt d) M_26 [] 1 (4, [some (.ref 118), some (.int x1)], [.int s0], σ)).trans rfl
theorem q_26_4811 (G : Nat × (Nat → Int32)) (d : Nat) (x1 : Int32) (σ : aH) : Lq G d M_26 (16, [some (.ref 118), some (.int x1)], [], σ) = Lq G d M_26 (21, [some (.ref 118), some (.int x1)], [.int x1, .ref 119], σ) :=
  (aUn_eq (tkd G.1 G.2) tmi (aRun (tkd G.1 G.2) tmi tmt d) M_26 [] 3 (16, [some (.ref 118), some (.int x1)], [], σ)).trans rfl
theorem q_26_4812 (G : Nat × (Nat → Int32)) (d : Nat) (x1 : Int32) (s0 : Int32) (σ : aH) : Lq G d M_26 (21, [some (.ref 118), some (.int x1)], [.int s0, .ref 119], σ) = none :=
  (aUn_eq (tkd G.1 G.2) tmi (aRun (tkd G.1 G.2) tmi tmt d) M_26 [] 1 (21, [some (.ref 118), some (.int x1)], [.int s0, .ref 119], σ)).trans rfl
theorem q_26_4813 (G : Nat × (Nat → Int32)) (d : Nat) (x1 : Int32) (σ : aH) : Lq G d M_26 (7, [some (.ref 118), some (.int x1)], [], σ) = Lq G d M_26 (12, [some (.ref 118), some (.int x1)], [.int x1, .ref 119], σ) :=
  (aUn_eq (tkd G.1 G.2) tmi (aRun (tkd G.1 G.2) tmi tmt d) M_26 [] 3 (7, [some (.ref 118), some (.int x1)], [], σ)).trans rfl
theorem q_26_4814 (G : Nat × (Nat → Int32)) (d : Nat) (x1 : Int32) (s0 : Int32) (σ : aH) : Lq G d M_26 (12, [some (.ref 118), some (.int x1)], [.int s0, .ref 119], σ) = aCI (Rn G d 27 [.ref 119, .int s0] σ) fun v2 σ1 => Lq G d M_26 (15, [some (.ref 118), some (.int x1)], [.int v2], σ1) :=
  (aUn_eq (tkd G.1 G.2) tmi (aRun (tkd G.1 G.2) tmi tmt d) M_26 [] 1 (12, [some (.ref 118), some (.int x1)], [.int s0, .ref 119], σ)).trans rfl
theorem q_26_4815 (G : Nat × (Nat → Int32)) (d : Nat) (x1 : Int32) (s0 : Int32) (σ : aH) : Lq G d M_26 (15, [some (.ref 118), some (.int x1)], [.int s0], σ) = aNar .char (s0) (some (.inl (some (.int s0)), σ)) :=
  (aUn_eq (tkd G.1 G.2) tmi (aRun (tkd G.1 G.2) tmi tmt d) M_26 [] 1 (15, [some (.ref 118), some (.int x1)], [.int s0], σ)).trans rfl
theorem q_26_4816 (G : Nat × (Nat → Int32)) (d : Nat) (x1 : Int32) (σ : aH) : Lq G d M_26 (0, [some (.ref 120), some (.int x1)], [], σ) = Lq G d M_26 (1, [some (.ref 120), some (.int x1)], [.ref 120], σ) :=
  (aUn_eq (tkd G.1 G.2) tmi (aRun (tkd G.1 G.2) tmi tmt d) M_26 [] 1 (0, [some (.ref 120), some (.int x1)], [], σ)).trans rfl
