/-! ===== the methods in pieces, as equations (by wip/gen/emit_eqs2.py) ===== -/
set_option maxRecDepth 20000 in
theorem q_26_4758 (G : Nat × (Nat → Int32)) (d : Nat) (x1 : Int32) (s0 : Int32) (σ : aH) : Lq G d M_26 (12, [some (.ref 104), some (.int x1)], [.int s0, .ref 105], σ) = aCI (Rn G d 27 [.ref 105, .int s0] σ) fun v2 σ1 => Lq G d M_26 (15, [some (.ref 104), some (.int x1)], [.int v2], σ1) :=
  (aUn_eq (tkd G.1 G.2) tmi (aRun (tkd G.1 G.2) tmi tmt d) M_26 [] 1 (12, [some (.ref 104), some (.int x1)], [.int s0, .ref 105], σ)).trans rfl
set_option maxRecDepth 20000 in
theorem q_26_4759 (G : Nat × (Nat → Int32)) (d : Nat) (x1 : Int32) (s0 : Int32) (σ : aH) : Lq G d M_26 (15, [some (.ref 104), some (.int x1)], [.int s0], σ) = aNar .char (s0) (some (.inl (some (.int s0)), σ)) :=
  (aUn_eq (tkd G.1 G.2) tmi (aRun (tkd G.1 G.2) tmi tmt d) M_26 [] 1 (15, [some (.ref 104), some (.int x1)], [.int s0], σ)).trans rfl
set_option maxRecDepth 20000 in
theorem q_26_4760 (G : Nat × (Nat → Int32)) (d : Nat) (x1 : Int32) (σ : aH) : Lq G d M_26 (0, [some (.ref 106), some (.int x1)], [], σ) = Lq G d M_26 (1, [some (.ref 106), some (.int x1)], [.ref 106], σ) :=
  (aUn_eq (tkd G.1 G.2) tmi (aRun (tkd G.1 G.2) tmi tmt d) M_26 [] 1 (0, [some (.ref 106), some (.int x1)], [], σ)).trans rfl
set_option maxRecDepth 20000 in
theorem q_26_4761 (G : Nat × (Nat → Int32)) (d : Nat) (x1 : Int32) (σ : aH) : Lq G d M_26 (1, [some (.ref 106), some (.int x1)], [.ref 106], σ) = aCI (Rn G d 14 [.ref 106] σ) fun v2 σ1 => Lq G d M_26 (4, [some (.ref 106), some (.int x1)], [.int v2], σ1) :=
  (aUn_eq (tkd G.1 G.2) tmi (aRun (tkd G.1 G.2) tmi tmt d) M_26 [] 1 (1, [some (.ref 106), some (.int x1)], [.ref 106], σ)).trans rfl
set_option maxRecDepth 20000 in
theorem q_26_4762 (G : Nat × (Nat → Int32)) (d : Nat) (x1 : Int32) (s0 : Int32) (σ : aH) : Lq G d M_26 (4, [some (.ref 106), some (.int x1)], [.int s0], σ) = if s0 = 0 then Lq G d M_26 (16, [some (.ref 106), some (.int x1)], [], σ) else Lq G d M_26 (7, [some (.ref 106), some (.int x1)], [], σ) :=
  (aUn_eq (tkd G.1 G.2) tmi (aRun (tkd G.1 G.2) tmi tmt d) M_26 [] 1 (4, [some (.ref 106), some (.int x1)], [.int s0], σ)).trans rfl
set_option maxRecDepth 20000 in
theorem q_26_4763 (G : Nat × (Nat → Int32)) (d : Nat) (x1 : Int32) (σ : aH) : Lq G d M_26 (16, [some (.ref 106), some (.int x1)], [], σ) = Lq G d M_26 (21, [some (.ref 106), some (.int x1)], [.int x1, .ref 107], σ) :=
  (aUn_eq (tkd G.1 G.2) tmi (aRun (tkd G.1 G.2) tmi tmt d) M_26 [] 3 (16, [some (.ref 106), some (.int x1)], [], σ)).trans rfl
set_option maxRecDepth 20000 in
theorem q_26_4764 (G : Nat × (Nat → Int32)) (d : Nat) (x1 : Int32) (s0 : Int32) (σ : aH) : Lq G d M_26 (21, [some (.ref 106), some (.int x1)], [.int s0, .ref 107], σ) = none :=
  (aUn_eq (tkd G.1 G.2) tmi (aRun (tkd G.1 G.2) tmi tmt d) M_26 [] 1 (21, [some (.ref 106), some (.int x1)], [.int s0, .ref 107], σ)).trans rfl
set_option maxRecDepth 20000 in
theorem q_26_4765 (G : Nat × (Nat → Int32)) (d : Nat) (x1 : Int32) (σ : aH) : Lq G d M_26 (7, [some (.ref 106), some (.int x1)], [], σ) = Lq G d M_26 (12, [some (.ref 106), some (.int x1)], [.int x1, .ref 107], σ) :=
  (aUn_eq (tkd G.1 G.2) tmi (aRun (tkd G.1 G.2) tmi tmt d) M_26 [] 3 (7, [some (.ref 106), some (.int x1)], [], σ)).trans rfl
set_option maxRecDepth 20000 in
theorem q_26_4766 (G : Nat × (Nat → Int32)) (d : Nat) (x1 : Int32) (s0 : Int32) (σ : aH) : Lq G d M_26 (12, [some (.ref 106), some (.int x1)], [.int s0, .ref 107], σ) = aCI (Rn G d 27 [.ref 107, .int s0] σ) fun v2 σ1 => Lq G d M_26 (15, [some (.ref 106), some (.int x1)], [.int v2], σ1) :=
  (aUn_eq (tkd G.1 G.2) tmi (aRun (tkd G.1 G.2) tmi tmt d) M_26 [] 1 (12, [some (.ref 106), some (.int x1)], [.int s0, .ref 107], σ)).trans rfl
set_option maxRecDepth 20000 in
theorem q_26_4767 (G : Nat × (Nat → Int32)) (d : Nat) (x1 : Int32) (s0 : Int32) (σ : aH) : Lq G d M_26 (15, [some (.ref 106), some (.int x1)], [.int s0], σ) = aNar .char (s0) (some (.inl (some (.int s0)), σ)) :=
  (aUn_eq (tkd G.1 G.2) tmi (aRun (tkd G.1 G.2) tmi tmt d) M_26 [] 1 (15, [some (.ref 106), some (.int x1)], [.int s0], σ)).trans rfl
set_option maxRecDepth 20000 in
theorem q_26_4768 (G : Nat × (Nat → Int32)) (d : Nat) (x1 : Int32) (σ : aH) : Lq G d M_26 (0, [some (.ref 108), some (.int x1)], [], σ) = Lq G d M_26 (1, [some (.ref 108), some (.int x1)], [.ref 108], σ) :=
  (aUn_eq (tkd G.1 G.2) tmi (aRun (tkd G.1 G.2) tmi tmt d) M_26 [] 1 (0, [some (.ref 108), some (.int x1)], [], σ)).trans rfl
set_option maxRecDepth 20000 in
theorem q_26_4769 (G : Nat × (Nat → Int32)) (d : Nat) (x1 : Int32) (σ : aH) : Lq G d M_26 (1, [some (.ref 108), some (.int x1)], [.ref 108], σ) = aCI (Rn G d 14 [.ref 108] σ) fun v2 σ1 => Lq G d M_26 (4, [some (.ref 108), some (.int x1)], [.int v2], σ1) :=
  (aUn_eq (tkd G.1 G.2) tmi (aRun (tkd G.1 G.2) tmi tmt d) M_26 [] 1 (1, [some (.ref 108), some (.int x1)], [.ref 108], σ)).trans rfl
set_option maxRecDepth 20000 in
theorem q_26_4770 (G : Nat × (Nat → Int32)) (d : Nat) (x1 : Int32) (s0 : Int32) (σ : aH) : Lq G d M_26 (4, [some (.ref 108), some (.int x1)], [.int s0], σ) = if s0 = 0 then Lq G d M_26 (16, [some (.ref 108), some (.int x1)], [], σ) else Lq G d M_26 (7, [some (.ref 108), some (.int x1)], [], σ) :=
  (aUn_eq (tkd G.1 G.2) tmi (aRun (tkd G.1 G.2) tmi tmt d) M_26 [] 1 (4, [some (.ref 108), some (.int x1)], [.int s0], σ)).trans rfl
set_option maxRecDepth 20000 in
theorem q_26_4771 (G : Nat × (Nat → Int32)) (d : Nat) (x1 : Int32) (σ : aH) : Lq G d M_26 (16, [some (.ref 108), some (.int x1)], [], σ) = Lq G d M_26 (21, [some (.ref 108), some (.int x1)], [.int x1, .ref 109], σ) :=
  (aUn_eq (tkd G.1 G.2) tmi (aRun (tkd G.1 G.2) tmi tmt d) M_26 [] 3 (16, [some (.ref 108), some (.int x1)], [], σ)).trans rfl
set_option maxRecDepth 20000 in
theorem q_26_4772 (G : Nat × (Nat → Int32)) (d : Nat) (x1 : Int32) (s0 : Int32) (σ : aH) : Lq G d M_26 (21, [some (.ref 108), some (.int x1)], [.int s0, .ref 109], σ) = none :=
  (aUn_eq (tkd G.1 G.2) tmi (aRun (tkd G.1 G.2) tmi tmt d) M_26 [] 1 (21, [some (.ref 108), some (.int x1)], [.int s0, .ref 109], σ)).trans rfl
set_option maxRecDepth 20000 in
theorem q_26_4773 (G : Nat × (Nat → Int32)) (d : Nat) (x1 : Int32) (σ : aH) : Lq G d M_26 (7, [some (.ref 108), some (.int x1)], [], σ) = Lq G d M_26 (12, [some (.ref 108), some (.int x1)], [.int x1, .ref 109], σ) :=
  (aUn_eq (tkd G.1 G.2) tmi (aRun (tkd G.1 G.2) tmi tmt d) M_26 [] 3 (7, [some (.ref 108), some (.int x1)], [], σ)).trans rfl
set_option maxRecDepth 20000 in
theorem q_26_4774 (G : Nat × (Nat → Int32)) (d : Nat) (x1 : Int32) (s0 : Int32) (σ : aH) : Lq G d M_26 (12, [some (.ref 108), some (.int x1)], [.int s0, .ref 109], σ) = aCI (Rn G d 27 [.ref 109, .int s0] σ) fun v2 σ1 => Lq G d M_26 (15, [some (.ref 108), some (.int x1)], [.int v2], σ1) :=
  (aUn_eq (tkd G.1 G.2) tmi (aRun (tkd G.1 G.2) tmi tmt d) M_26 [] 1 (12, [some (.ref 108), some (.int x1)], [.int s0, .ref 109], σ)).trans rfl
set_option maxRecDepth 20000 in
theorem q_26_4775 (G : Nat × (Nat → Int32)) (d : Nat) (x1 : Int32) (s0 : Int32) (σ : aH) : Lq G d M_26 (15, [some (.ref 108), some (.int x1)], [.int s0], σ) = aNar .char (s0) (some (.inl (some (.int s0)), σ)) :=
  (aUn_eq (tkd G.1 G.2) tmi (aRun (tkd G.1 G.2) tmi tmt d) M_26 [] 1 (15, [some (.ref 108), some (.int x1)], [.int s0], σ)).trans rfl
set_option maxRecDepth 20000 in
theorem q_26_4776 (G : Nat × (Nat → Int32)) (d : Nat) (x1 : Int32) (σ : aH) : Lq G d M_26 (0, [some (.ref 110), some (.int x1)], [], σ) = Lq G d M_26 (1, [some (.ref 110), some (.int x1)], [.ref 110], σ) :=
  (aUn_eq (tkd G.1 G.2) tmi (aRun (tkd G.1 G.2) tmi tmt d) M_26 [] 1 (0, [some (.ref 110), some (.int x1)], [], σ)).trans rfl
set_option maxRecDepth 20000 in
theorem q_26_4777 (G : Nat × (Nat → Int32)) (d : Nat) (x1 : Int32) (σ : aH) : Lq G d M_26 (1, [some (.ref 110), some (.int x1)], [.ref 110], σ) = aCI (Rn G d 14 [.ref 110] σ) fun v2 σ1 => Lq G d M_26 (4, [some (.ref 110), some (.int x1)], [.int v2], σ1) :=
  (aUn_eq (tkd G.1 G.2) tmi (aRun (tkd G.1 G.2) tmi tmt d) M_26 [] 1 (1, [some (.ref 110), some (.int x1)], [.ref 110], σ)).trans rfl
set_option maxRecDepth 20000 in
theorem q_26_4778 (G : Nat × (Nat → Int32)) (d : Nat) (x1 : Int32) (s0 : Int32) (σ : aH) : Lq G d M_26 (4, [some (.ref 110), some (.int x1)], [.int s0], σ) = if s0 = 0 then Lq G d M_26 (16, [some (.ref 110), some (.int x1)], [], σ) else Lq G d M_26 (7, [some (.ref 110), some (.int x1)], [], σ) :=
  (aUn_eq (tkd G.1 G.2) tmi (aRun (tkd G.1 G.2) tmi tmt d) M_26 [] 1 (4, [some (.ref 110), some (.int x1)], [.int s0], σ)).trans rfl
set_option maxRecDepth 20000 in
theorem q_26_4779 (G : Nat × (Nat → Int32)) (d : Nat) (x1 : Int32) (σ : aH) : Lq G d M_26 (16, [some (.ref 110), some (.int x1)], [], σ) = Lq G d M_26 (21, [some (.ref 110), some (.int x1)], [.int x1, .ref 111], σ) :=
  (aUn_eq (tkd G.1 G.2) tmi (aRun (tkd G.1 G.2) tmi tmt d) M_26 [] 3 (16, [some (.ref 110), some (.int x1)], [], σ)).trans rfl
set_option maxRecDepth 20000 in
theorem q_26_4780 (G : Nat × (Nat → Int32)) (d : Nat) (x1 : Int32) (s0 : Int32) (σ : aH) : Lq G d M_26 (21, [some (.ref 110), some (.int x1)], [.int s0, .ref 111], σ) = none :=
  (aUn_eq (tkd G.1 G.2) tmi (aRun (tkd G.1 G.2) tmi tmt d) M_26 [] 1 (21, [some (.ref 110), some (.int x1)], [.int s0, .ref 111], σ)).trans rfl
set_option maxRecDepth 20000 in
theorem q_26_4781 (G : Nat × (Nat → Int32)) (d : Nat) (x1 : Int32) (σ : aH) : Lq G d M_26 (7, [some (.ref 110), some (.int x1)], [], σ) = Lq G d M_26 (12, [some (.ref 110), some (.int x1)], [.int x1, .ref 111], σ) :=
  (aUn_eq (tkd G.1 G.2) tmi (aRun (tkd G.1 G.2) tmi tmt d) M_26 [] 3 (7, [some (.ref 110), some (.int x1)], [], σ)).trans rfl
set_option maxRecDepth 20000 in
theorem q_26_4782 (G : Nat × (Nat → Int32)) (d : Nat) (x1 : Int32) (s0 : Int32) (σ : aH) : Lq G d M_26 (12, [some (.ref 110), some (.int x1)], [.int s0, .ref 111], σ) = aCI (Rn G d 27 [.ref 111, .int s0] σ) fun v2 σ1 => Lq G d M_26 (15, [some (.ref 110), some (.int x1)], [.int v2], σ1) :=
  (aUn_eq (tkd G.1 G.2) tmi (aRun (tkd G.1 G.2) tmi tmt d) M_26 [] 1 (12, [some (.ref 110), some (.int x1)], [.int s0, .ref 111], σ)).trans rfl
set_option maxRecDepth 20000 in
theorem q_26_4783 (G : Nat × (Nat → Int32)) (d : Nat) (x1 : Int32) (s0 : Int32) (σ : aH) : Lq G d M_26 (15, [some (.ref 110), some (.int x1)], [.int s0], σ) = aNar .char (s0) (some (.inl (some (.int s0)), σ)) :=
  (aUn_eq (tkd G.1 G.2) tmi (aRun (tkd G.1 G.2) tmi tmt d) M_26 [] 1 (15, [some (.ref 110), some (.int x1)], [.int s0], σ)).trans rfl
set_option maxRecDepth 20000 in
theorem q_26_4784 (G : Nat × (Nat → Int32)) (d : Nat) (x1 : Int32) (σ : aH) : Lq G d M_26 (0, [some (.ref 112), some (.int x1)], [], σ) = Lq G d M_26 (1, [some (.ref 112), some (.int x1)], [.ref 112], σ) :=
  (aUn_eq (tkd G.1 G.2) tmi (aRun (tkd G.1 G.2) tmi tmt d) M_26 [] 1 (0, [some (.ref 112), some (.int x1)], [], σ)).trans rfl
set_option maxRecDepth 20000 in
theorem q_26_4785 (G : Nat × (Nat → Int32)) (d : Nat) (x1 : Int32) (σ : aH) : Lq G d M_26 (1, [some (.ref 112), some (.int x1)], [.ref 112], σ) = aCI (Rn G d 14 [.ref 112] σ) fun v2 σ1 => Lq G d M_26 (4, [some (.ref 112), some (.int x1)], [.int v2], σ1) :=
  (aUn_eq (tkd G.1 G.2) tmi (aRun (tkd G.1 G.2) tmi tmt d) M_26 [] 1 (1, [some (.ref 112), some (.int x1)], [.ref 112], σ)).trans rfl
set_option maxRecDepth 20000 in
theorem q_26_4786 (G : Nat × (Nat → Int32)) (d : Nat) (x1 : Int32) (s0 : Int32) (σ : aH) : Lq G d M_26 (4, [some (.ref 112), some (.int x1)], [.int s0], σ) = if s0 = 0 then Lq G d M_26 (16, [some (.ref 112), some (.int x1)], [], σ) else Lq G d M_26 (7, [some (.ref 112), some (.int x1)], [], σ) :=
  (aUn_eq (tkd G.1 G.2) tmi (aRun (tkd G.1 G.2) tmi tmt d) M_26 [] 1 (4, [some (.ref 112), some (.int x1)], [.int s0], σ)).trans rfl
set_option maxRecDepth 20000 in
theorem q_26_4787 (G : Nat × (Nat → Int32)) (d : Nat) (x1 : Int32) (σ : aH) : Lq G d M_26 (16, [some (.ref 112), some (.int x1)], [], σ) = Lq G d M_26 (21, [some (.ref 112), some (.int x1)], [.int x1, .ref 113], σ) :=
  (aUn_eq (tkd G.1 G.2) tmi (aRun (tkd G.1 G.2) tmi tmt d) M_26 [] 3 (16, [some (.ref 112), some (.int x1)], [], σ)).trans rfl
set_option maxRecDepth 20000 in
theorem q_26_4788 (G : Nat × (Nat → Int32)) (d : Nat) (x1 : Int32) (s0 : Int32) (σ : aH) : Lq G d M_26 (21, [some (.ref 112), some (.int x1)], [.int s0, .ref 113], σ) = none :=
  (aUn_eq (tkd G.1 G.2) tmi (aRun (tkd G.1 G.2) tmi tmt d) M_26 [] 1 (21, [some (.ref 112), some (.int x1)], [.int s0, .ref 113], σ)).trans rfl
set_option maxRecDepth 20000 in
theorem q_26_4789 (G : Nat × (Nat → Int32)) (d : Nat) (x1 : Int32) (σ : aH) : Lq G d M_26 (7, [some (.ref 112), some (.int x1)], [], σ) = Lq G d M_26 (12, [some (.ref 112), some (.int x1)], [.int x1, .ref 113], σ) :=
  (aUn_eq (tkd G.1 G.2) tmi (aRun (tkd G.1 G.2) tmi tmt d) M_26 [] 3 (7, [some (.ref 112), some (.int x1)], [], σ)).trans rfl
set_option maxRecDepth 20000 in
theorem q_26_4790 (G : Nat × (Nat → Int32)) (d : Nat) (x1 : Int32) (s0 : Int32) (σ : aH) : Lq G d M_26 (12, [some (.ref 112), some (.int x1)], [.int s0, .ref 113], σ) = aCI (Rn G d 27 [.ref 113, .int s0] σ) fun v2 σ1 => Lq G d M_26 (15, [some (.ref 112), some (.int x1)], [.int v2], σ1) :=
  (aUn_eq (tkd G.1 G.2) tmi (aRun (tkd G.1 G.2) tmi tmt d) M_26 [] 1 (12, [some (.ref 112), some (.int x1)], [.int s0, .ref 113], σ)).trans rfl
set_option maxRecDepth 20000 in
theorem q_26_4791 (G : Nat × (Nat → Int32)) (d : Nat) (x1 : Int32) (s0 : Int32) (σ : aH) : Lq G d M_26 (15, [some (.ref 112), some (.int x1)], [.int s0], σ) = aNar .char (s0) (some (.inl (some (.int s0)), σ)) :=
  (aUn_eq (tkd G.1 G.2) tmi (aRun (tkd G.1 G.2) tmi tmt d) M_26 [] 1 (15, [some (.ref 112), some (.int x1)], [.int s0], σ)).trans rfl
set_option maxRecDepth 20000 in
theorem q_26_4792 (G : Nat × (Nat → Int32)) (d : Nat) (x1 : Int32) (σ : aH) : Lq G d M_26 (0, [some (.ref 114), some (.int x1)], [], σ) = Lq G d M_26 (1, [some (.ref 114), some (.int x1)], [.ref 114], σ) :=
  (aUn_eq (tkd G.1 G.2) tmi (aRun (tkd G.1 G.2) tmi tmt d) M_26 [] 1 (0, [some (.ref 114), some (.int x1)], [], σ)).trans rfl
set_option maxRecDepth 20000 in
theorem q_26_4793 (G : Nat × (Nat → Int32)) (d : Nat) (x1 : Int32) (σ : aH) : Lq G d M_26 (1, [some (.ref 114), some (.int x1)], [.ref 114], σ) = aCI (Rn G d 14 [.ref 114] σ) fun v2 σ1 => Lq G d M_26 (4, [some (.ref 114), some (.int x1)], [.int v2], σ1) :=
  (aUn_eq (tkd G.1 G.2) tmi (aRun (tkd G.1 G.2) tmi tmt d) M_26 [] 1 (1, [some (.ref 114), some (.int x1)], [.ref 114], σ)).trans rfl
set_option maxRecDepth 20000 in
theorem q_26_4794 (G : Nat × (Nat → Int32)) (d : Nat) (x1 : Int32) (s0 : Int32) (σ : aH) : Lq G d M_26 (4, [some (.ref 114), some (.int x1)], [.int s0], σ) = if s0 = 0 then Lq G d M_26 (16, [some (.ref 114), some (.int x1)], [], σ) else Lq G d M_26 (7, [some (.ref 114), some (.int x1)], [], σ) :=
  (aUn_eq (tkd G.1 G.2) tmi (aRun (tkd G.1 G.2) tmi tmt d) M_26 [] 1 (4, [some (.ref 114), some (.int x1)], [.int s0], σ)).trans rfl
set_option maxRecDepth 20000 in
theorem q_26_4795 (G : Nat × (Nat → Int32)) (d : Nat) (x1 : Int32) (σ : aH) : Lq G d M_26 (16, [some (.ref 114), some (.int x1)], [], σ) = Lq G d M_26 (21, [some (.ref 114), some (.int x1)], [.int x1, .ref 115], σ) :=
  (aUn_eq (tkd G.1 G.2) tmi (aRun (tkd G.1 G.2) tmi tmt d) M_26 [] 3 (16, [some (.ref 114), some (.int x1)], [], σ)).trans rfl
set_option maxRecDepth 20000 in
theorem q_26_4796 (G : Nat × (Nat → Int32)) (d : Nat) (x1 : Int32) (s0 : Int32) (σ : aH) : Lq G d M_26 (21, [some (.ref 114), some (.int x1)], [.int s0, .ref 115], σ) = none :=
  (aUn_eq (tkd G.1 G.2) tmi (aRun (tkd G.1 G.2) tmi tmt d) M_26 [] 1 (21, [some (.ref 114), some (.int x1)], [.int s0, .ref 115], σ)).trans rfl
set_option maxRecDepth 20000 in
theorem q_26_4797 (G : Nat × (Nat → Int32)) (d : Nat) (x1 : Int32) (σ : aH) : Lq G d M_26 (7, [some (.ref 114), some (.int x1)], [], σ) = Lq G d M_26 (12, [some (.ref 114), some (.int x1)], [.int x1, .ref 115], σ) :=
  (aUn_eq (tkd G.1 G.2) tmi (aRun (tkd G.1 G.2) tmi tmt d) M_26 [] 3 (7, [some (.ref 114), some (.int x1)], [], σ)).trans rfl
set_option maxRecDepth 20000 in
theorem q_26_4798 (G : Nat × (Nat → Int32)) (d : Nat) (x1 : Int32) (s0 : Int32) (σ : aH) : Lq G d M_26 (12, [some (.ref 114), some (.int x1)], [.int s0, .ref 115], σ) = aCI (Rn G d 27 [.ref 115, .int s0] σ) fun v2 σ1 => Lq G d M_26 (15, [some (.ref 114), some (.int x1)], [.int v2], σ1) :=
  (aUn_eq (tkd G.1 G.2) tmi (aRun (tkd G.1 G.2) tmi tmt d) M_26 [] 1 (12, [some (.ref 114), some (.int x1)], [.int s0, .ref 115], σ)).trans rfl
set_option maxRecDepth 20000 in
theorem q_26_4799 (G : Nat × (Nat → Int32)) (d : Nat) (x1 : Int32) (s0 : Int32) (σ : aH) : Lq G d M_26 (15, [some (.ref 114), some (.int x1)], [.int s0], σ) = aNar .char (s0) (some (.inl (some (.int s0)), σ)) :=
  (aUn_eq (tkd G.1 G.2) tmi (aRun (tkd G.1 G.2) tmi tmt d) M_26 [] 1 (15, [some (.ref 114), some (.int x1)], [.int s0], σ)).trans rfl
set_option maxRecDepth 20000 in
theorem q_26_4800 (G : Nat × (Nat → Int32)) (d : Nat) (x1 : Int32) (σ : aH) : Lq G d M_26 (0, [some (.ref 116), some (.int x1)], [], σ) = Lq G d M_26 (1, [some (.ref 116), some (.int x1)], [.ref 116], σ) :=
  (aUn_eq (tkd G.1 G.2) tmi (aRun (tkd G.1 G.2) tmi tmt d) M_26 [] 1 (0, [some (.ref 116), some (.int x1)], [], σ)).trans rfl
set_option maxRecDepth 20000 in
theorem q_26_4801 (G : Nat × (Nat → Int32)) (d : Nat) (x1 : Int32) (σ : aH) : Lq G d M_26 (1, [some (.ref 116), some (.int x1)], [.ref 116], σ) = aCI (Rn G d 14 [.ref 116] σ) fun v2 σ1 => Lq G d M_26 (4, [some (.ref 116), some (.int x1)], [.int v2], σ1) :=
  (aUn_eq (tkd G.1 G.2) tmi (aRun (tkd G.1 G.2) tmi tmt d) M_26 [] 1 (1, [some (.ref 116), some (.int x1)], [.ref 116], σ)).trans rfl
set_option maxRecDepth 20000 in
theorem q_26_4802 (G : Nat × (Nat → Int32)) (d : Nat) (x1 : Int32) (s0 : Int32) (σ : aH) : Lq G d M_26 (4, [some (.ref 116), some (.int x1)], [.int s0], σ) = if s0 = 0 then Lq G d M_26 (16, [some (.ref 116), some (.int x1)], [], σ) else Lq G d M_26 (7, [some (.ref 116), some (.int x1)], [], σ) :=
  (aUn_eq (tkd G.1 G.2) tmi (aRun (tkd G.1 G.2) tmi tmt d) M_26 [] 1 (4, [some (.ref 116), some (.int x1)], [.int s0], σ)).trans rfl
set_option maxRecDepth 20000 in
theorem q_26_4803 (G : Nat × (Nat → Int32)) (d : Nat) (x1 : Int32) (σ : aH) : Lq G d M_26 (16, [some (.ref 116), some (.int x1)], [], σ) = Lq G d M_26 (21, [some (.ref 116), some (.int x1)], [.int x1, .ref 117], σ) :=
  (aUn_eq (tkd G.1 G.2) tmi (aRun (tkd G.1 G.2) tmi tmt d) M_26 [] 3 (16, [some (.ref 116), some (.int x1)], [], σ)).trans rfl
set_option maxRecDepth 20000 in
theorem q_26_4804 (G : Nat × (Nat → Int32)) (d : Nat) (x1 : Int32) (s0 : Int32) (σ : aH) : Lq G d M_26 (21, [some (.ref 116), some (.int x1)], [.int s0, .ref 117], σ) = none :=
  (aUn_eq (tkd G.1 G.2) tmi (aRun (tkd G.1 G.2) tmi tmt d) M_26 [] 1 (21, [some (.ref 116), some (.int x1)], [.int s0, .ref 117], σ)).trans rfl
set_option maxRecDepth 20000 in
theorem q_26_4805 (G : Nat × (Nat → Int32)) (d : Nat) (x1 : Int32) (σ : aH) : Lq G d M_26 (7, [some (.ref 116), some (.int x1)], [], σ) = Lq G d M_26 (12, [some (.ref 116), some (.int x1)], [.int x1, .ref 117], σ) :=
  (aUn_eq (tkd G.1 G.2) tmi (aRun (tkd G.1 G.2) tmi tmt d) M_26 [] 3 (7, [some (.ref 116), some (.int x1)], [], σ)).trans rfl
set_option maxRecDepth 20000 in
theorem q_26_4806 (G : Nat × (Nat → Int32)) (d : Nat) (x1 : Int32) (s0 : Int32) (σ : aH) : Lq G d M_26 (12, [some (.ref 116), some (.int x1)], [.int s0, .ref 117], σ) = aCI (Rn G d 27 [.ref 117, .int s0] σ) fun v2 σ1 => Lq G d M_26 (15, [some (.ref 116), some (.int x1)], [.int v2], σ1) :=
  (aUn_eq (tkd G.1 G.2) tmi (aRun (tkd G.1 G.2) tmi tmt d) M_26 [] 1 (12, [some (.ref 116), some (.int x1)], [.int s0, .ref 117], σ)).trans rfl
set_option maxRecDepth 20000 in
theorem q_26_4807 (G : Nat × (Nat → Int32)) (d : Nat) (x1 : Int32) (s0 : Int32) (σ : aH) : Lq G d M_26 (15, [some (.ref 116), some (.int x1)], [.int s0], σ) = aNar .char (s0) (some (.inl (some (.int s0)), σ)) :=
  (aUn_eq (tkd G.1 G.2) tmi (aRun (tkd G.1 G.2) tmi tmt d) M_26 [] 1 (15, [some (.ref 116), some (.int x1)], [.int s0], σ)).trans rfl
set_option maxRecDepth 20000 in
theorem q_26_4808 (G : Nat × (Nat → Int32)) (d : Nat) (x1 : Int32) (σ : aH) : Lq G d M_26 (0, [some (.ref 118), some (.int x1)], [], σ) = Lq G d M_26 (1, [some (.ref 118), some (.int x1)], [.ref 118], σ) :=
  (aUn_eq (tkd G.1 G.2) tmi (aRun (tkd G.1 G.2) tmi tmt d) M_26 [] 1 (0, [some (.ref 118), some (.int x1)], [], σ)).trans rfl
set_option maxRecDepth 20000 in
theorem q_26_4809 (G : Nat × (Nat → Int32)) (d : Nat) (x1 : Int32) (σ : aH) : Lq G d M_26 (1, [some (.ref 118), some (.int x1)], [.ref 118], σ) = aCI (Rn G d 14 [.ref 118] σ) fun v2 σ1 => Lq G d M_26 (4, [some (.ref 118), some (.int x1)], [.int v2], σ1) :=
  (aUn_eq (tkd G.1 G.2) tmi (aRun (tkd G.1 G.2) tmi tmt d) M_26 [] 1 (1, [some (.ref 118), some (.int x1)], [.ref 118], σ)).trans rfl
set_option maxRecDepth 20000 in
theorem q_26_4810 (G : Nat × (Nat → Int32)) (d : Nat) (x1 : Int32) (s0 : Int32) (σ : aH) : Lq G d M_26 (4, [some (.ref 118), some (.int x1)], [.int s0], σ) = if s0 = 0 then Lq G d M_26 (16, [some (.ref 118), some (.int x1)], [], σ) else Lq G d M_26 (7, [some (.ref 118), some (.int x1)], [], σ) :=
  (aUn_eq (tkd G.1 G.2) tmi (aRun (tkd G.1 G.2) tmi tmt d) M_26 [] 1 (4, [some (.ref 118), some (.int x1)], [.int s0], σ)).trans rfl
set_option maxRecDepth 20000 in
theorem q_26_4811 (G : Nat × (Nat → Int32)) (d : Nat) (x1 : Int32) (σ : aH) : Lq G d M_26 (16, [some (.ref 118), some (.int x1)], [], σ) = Lq G d M_26 (21, [some (.ref 118), some (.int x1)], [.int x1, .ref 119], σ) :=
  (aUn_eq (tkd G.1 G.2) tmi (aRun (tkd G.1 G.2) tmi tmt d) M_26 [] 3 (16, [some (.ref 118), some (.int x1)], [], σ)).trans rfl
set_option maxRecDepth 20000 in
theorem q_26_4812 (G : Nat × (Nat → Int32)) (d : Nat) (x1 : Int32) (s0 : Int32) (σ : aH) : Lq G d M_26 (21, [some (.ref 118), some (.int x1)], [.int s0, .ref 119], σ) = none :=
  (aUn_eq (tkd G.1 G.2) tmi (aRun (tkd G.1 G.2) tmi tmt d) M_26 [] 1 (21, [some (.ref 118), some (.int x1)], [.int s0, .ref 119], σ)).trans rfl
set_option maxRecDepth 20000 in
theorem q_26_4813 (G : Nat × (Nat → Int32)) (d : Nat) (x1 : Int32) (σ : aH) : Lq G d M_26 (7, [some (.ref 118), some (.int x1)], [], σ) = Lq G d M_26 (12, [some (.ref 118), some (.int x1)], [.int x1, .ref 119], σ) :=
  (aUn_eq (tkd G.1 G.2) tmi (aRun (tkd G.1 G.2) tmi tmt d) M_26 [] 3 (7, [some (.ref 118), some (.int x1)], [], σ)).trans rfl
set_option maxRecDepth 20000 in
theorem q_26_4814 (G : Nat × (Nat → Int32)) (d : Nat) (x1 : Int32) (s0 : Int32) (σ : aH) : Lq G d M_26 (12, [some (.ref 118), some (.int x1)], [.int s0, .ref 119], σ) = aCI (Rn G d 27 [.ref 119, .int s0] σ) fun v2 σ1 => Lq G d M_26 (15, [some (.ref 118), some (.int x1)], [.int v2], σ1) :=
  (aUn_eq (tkd G.1 G.2) tmi (aRun (tkd G.1 G.2) tmi tmt d) M_26 [] 1 (12, [some (.ref 118), some (.int x1)], [.int s0, .ref 119], σ)).trans rfl
set_option maxRecDepth 20000 in
theorem q_26_4815 (G : Nat × (Nat → Int32)) (d : Nat) (x1 : Int32) (s0 : Int32) (σ : aH) : Lq G d M_26 (15, [some (.ref 118), some (.int x1)], [.int s0], σ) = aNar .char (s0) (some (.inl (some (.int s0)), σ)) :=
  (aUn_eq (tkd G.1 G.2) tmi (aRun (tkd G.1 G.2) tmi tmt d) M_26 [] 1 (15, [some (.ref 118), some (.int x1)], [.int s0], σ)).trans rfl
set_option maxRecDepth 20000 in
theorem q_26_4816 (G : Nat × (Nat → Int32)) (d : Nat) (x1 : Int32) (σ : aH) : Lq G d M_26 (0, [some (.ref 120), some (.int x1)], [], σ) = Lq G d M_26 (1, [some (.ref 120), some (.int x1)], [.ref 120], σ) :=
  (aUn_eq (tkd G.1 G.2) tmi (aRun (tkd G.1 G.2) tmi tmt d) M_26 [] 1 (0, [some (.ref 120), some (.int x1)], [], σ)).trans rfl
set_option maxRecDepth 20000 in
theorem q_26_4817 (G : Nat × (Nat → Int32)) (d : Nat) (x1 : Int32) (σ : aH) : Lq G d M_26 (1, [some (.ref 120), some (.int x1)], [.ref 120], σ) = aCI (Rn G d 14 [.ref 120] σ) fun v2 σ1 => Lq G d M_26 (4, [some (.ref 120), some (.int x1)], [.int v2], σ1) :=
  (aUn_eq (tkd G.1 G.2) tmi (aRun (tkd G.1 G.2) tmi tmt d) M_26 [] 1 (1, [some (.ref 120), some (.int x1)], [.ref 120], σ)).trans rfl
set_option maxRecDepth 20000 in
theorem q_26_4818 (G : Nat × (Nat → Int32)) (d : Nat) (x1 : Int32) (s0 : Int32) (σ : aH) : Lq G d M_26 (4, [some (.ref 120), some (.int x1)], [.int s0], σ) = if s0 = 0 then Lq G d M_26 (16, [some (.ref 120), some (.int x1)], [], σ) else Lq G d M_26 (7, [some (.ref 120), some (.int x1)], [], σ) :=
  (aUn_eq (tkd G.1 G.2) tmi (aRun (tkd G.1 G.2) tmi tmt d) M_26 [] 1 (4, [some (.ref 120), some (.int x1)], [.int s0], σ)).trans rfl
set_option maxRecDepth 20000 in
theorem q_26_4819 (G : Nat × (Nat → Int32)) (d : Nat) (x1 : Int32) (σ : aH) : Lq G d M_26 (16, [some (.ref 120), some (.int x1)], [], σ) = Lq G d M_26 (21, [some (.ref 120), some (.int x1)], [.int x1, .ref 121], σ) :=
  (aUn_eq (tkd G.1 G.2) tmi (aRun (tkd G.1 G.2) tmi tmt d) M_26 [] 3 (16, [some (.ref 120), some (.int x1)], [], σ)).trans rfl
set_option maxRecDepth 20000 in
theorem q_26_4820 (G : Nat × (Nat → Int32)) (d : Nat) (x1 : Int32) (s0 : Int32) (σ : aH) : Lq G d M_26 (21, [some (.ref 120), some (.int x1)], [.int s0, .ref 121], σ) = none :=
  (aUn_eq (tkd G.1 G.2) tmi (aRun (tkd G.1 G.2) tmi tmt d) M_26 [] 1 (21, [some (.ref 120), some (.int x1)], [.int s0, .ref 121], σ)).trans rfl
set_option maxRecDepth 20000 in
theorem q_26_4821 (G : Nat × (Nat → Int32)) (d : Nat) (x1 : Int32) (σ : aH) : Lq G d M_26 (7, [some (.ref 120), some (.int x1)], [], σ) = Lq G d M_26 (12, [some (.ref 120), some (.int x1)], [.int x1, .ref 121], σ) :=
  (aUn_eq (tkd G.1 G.2) tmi (aRun (tkd G.1 G.2) tmi tmt d) M_26 [] 3 (7, [some (.ref 120), some (.int x1)], [], σ)).trans rfl
set_option maxRecDepth 20000 in
theorem q_26_4822 (G : Nat × (Nat → Int32)) (d : Nat) (x1 : Int32) (s0 : Int32) (σ : aH) : Lq G d M_26 (12, [some (.ref 120), some (.int x1)], [.int s0, .ref 121], σ) = aCI (Rn G d 27 [.ref 121, .int s0] σ) fun v2 σ1 => Lq G d M_26 (15, [some (.ref 120), some (.int x1)], [.int v2], σ1) :=
  (aUn_eq (tkd G.1 G.2) tmi (aRun (tkd G.1 G.2) tmi tmt d) M_26 [] 1 (12, [some (.ref 120), some (.int x1)], [.int s0, .ref 121], σ)).trans rfl
set_option maxRecDepth 20000 in
theorem q_26_4823 (G : Nat × (Nat → Int32)) (d : Nat) (x1 : Int32) (s0 : Int32) (σ : aH) : Lq G d M_26 (15, [some (.ref 120), some (.int x1)], [.int s0], σ) = aNar .char (s0) (some (.inl (some (.int s0)), σ)) :=
  (aUn_eq (tkd G.1 G.2) tmi (aRun (tkd G.1 G.2) tmi tmt d) M_26 [] 1 (15, [some (.ref 120), some (.int x1)], [.int s0], σ)).trans rfl
set_option maxRecDepth 20000 in
theorem q_26_4824 (G : Nat × (Nat → Int32)) (d : Nat) (x1 : Int32) (σ : aH) : Lq G d M_26 (0, [some (.ref 122), some (.int x1)], [], σ) = Lq G d M_26 (1, [some (.ref 122), some (.int x1)], [.ref 122], σ) :=
  (aUn_eq (tkd G.1 G.2) tmi (aRun (tkd G.1 G.2) tmi tmt d) M_26 [] 1 (0, [some (.ref 122), some (.int x1)], [], σ)).trans rfl
set_option maxRecDepth 20000 in
theorem q_26_4825 (G : Nat × (Nat → Int32)) (d : Nat) (x1 : Int32) (σ : aH) : Lq G d M_26 (1, [some (.ref 122), some (.int x1)], [.ref 122], σ) = aCI (Rn G d 14 [.ref 122] σ) fun v2 σ1 => Lq G d M_26 (4, [some (.ref 122), some (.int x1)], [.int v2], σ1) :=
  (aUn_eq (tkd G.1 G.2) tmi (aRun (tkd G.1 G.2) tmi tmt d) M_26 [] 1 (1, [some (.ref 122), some (.int x1)], [.ref 122], σ)).trans rfl
set_option maxRecDepth 20000 in
theorem q_26_4826 (G : Nat × (Nat → Int32)) (d : Nat) (x1 : Int32) (s0 : Int32) (σ : aH) : Lq G d M_26 (4, [some (.ref 122), some (.int x1)], [.int s0], σ) = if s0 = 0 then Lq G d M_26 (16, [some (.ref 122), some (.int x1)], [], σ) else Lq G d M_26 (7, [some (.ref 122), some (.int x1)], [], σ) :=
  (aUn_eq (tkd G.1 G.2) tmi (aRun (tkd G.1 G.2) tmi tmt d) M_26 [] 1 (4, [some (.ref 122), some (.int x1)], [.int s0], σ)).trans rfl
set_option maxRecDepth 20000 in
theorem q_26_4827 (G : Nat × (Nat → Int32)) (d : Nat) (x1 : Int32) (σ : aH) : Lq G d M_26 (16, [some (.ref 122), some (.int x1)], [], σ) = Lq G d M_26 (21, [some (.ref 122), some (.int x1)], [.int x1, .ref 123], σ) :=
  (aUn_eq (tkd G.1 G.2) tmi (aRun (tkd G.1 G.2) tmi tmt d) M_26 [] 3 (16, [some (.ref 122), some (.int x1)], [], σ)).trans rfl
set_option maxRecDepth 20000 in
theorem q_26_4828 (G : Nat × (Nat → Int32)) (d : Nat) (x1 : Int32) (s0 : Int32) (σ : aH) : Lq G d M_26 (21, [some (.ref 122), some (.int x1)], [.int s0, .ref 123], σ) = none :=
  (aUn_eq (tkd G.1 G.2) tmi (aRun (tkd G.1 G.2) tmi tmt d) M_26 [] 1 (21, [some (.ref 122), some (.int x1)], [.int s0, .ref 123], σ)).trans rfl
set_option maxRecDepth 20000 in
theorem q_26_4829 (G : Nat × (Nat → Int32)) (d : Nat) (x1 : Int32) (σ : aH) : Lq G d M_26 (7, [some (.ref 122), some (.int x1)], [], σ) = Lq G d M_26 (12, [some (.ref 122), some (.int x1)], [.int x1, .ref 123], σ) :=
  (aUn_eq (tkd G.1 G.2) tmi (aRun (tkd G.1 G.2) tmi tmt d) M_26 [] 3 (7, [some (.ref 122), some (.int x1)], [], σ)).trans rfl
set_option maxRecDepth 20000 in
theorem q_26_4830 (G : Nat × (Nat → Int32)) (d : Nat) (x1 : Int32) (s0 : Int32) (σ : aH) : Lq G d M_26 (12, [some (.ref 122), some (.int x1)], [.int s0, .ref 123], σ) = aCI (Rn G d 27 [.ref 123, .int s0] σ) fun v2 σ1 => Lq G d M_26 (15, [some (.ref 122), some (.int x1)], [.int v2], σ1) :=
  (aUn_eq (tkd G.1 G.2) tmi (aRun (tkd G.1 G.2) tmi tmt d) M_26 [] 1 (12, [some (.ref 122), some (.int x1)], [.int s0, .ref 123], σ)).trans rfl
set_option maxRecDepth 20000 in
theorem q_26_4831 (G : Nat × (Nat → Int32)) (d : Nat) (x1 : Int32) (s0 : Int32) (σ : aH) : Lq G d M_26 (15, [some (.ref 122), some (.int x1)], [.int s0], σ) = aNar .char (s0) (some (.inl (some (.int s0)), σ)) :=
  (aUn_eq (tkd G.1 G.2) tmi (aRun (tkd G.1 G.2) tmi tmt d) M_26 [] 1 (15, [some (.ref 122), some (.int x1)], [.int s0], σ)).trans rfl
set_option maxRecDepth 20000 in
theorem q_26_4832 (G : Nat × (Nat → Int32)) (d : Nat) (x1 : Int32) (σ : aH) : Lq G d M_26 (0, [some (.ref 124), some (.int x1)], [], σ) = Lq G d M_26 (1, [some (.ref 124), some (.int x1)], [.ref 124], σ) :=
  (aUn_eq (tkd G.1 G.2) tmi (aRun (tkd G.1 G.2) tmi tmt d) M_26 [] 1 (0, [some (.ref 124), some (.int x1)], [], σ)).trans rfl
set_option maxRecDepth 20000 in
theorem q_26_4833 (G : Nat × (Nat → Int32)) (d : Nat) (x1 : Int32) (σ : aH) : Lq G d M_26 (1, [some (.ref 124), some (.int x1)], [.ref 124], σ) = aCI (Rn G d 14 [.ref 124] σ) fun v2 σ1 => Lq G d M_26 (4, [some (.ref 124), some (.int x1)], [.int v2], σ1) :=
  (aUn_eq (tkd G.1 G.2) tmi (aRun (tkd G.1 G.2) tmi tmt d) M_26 [] 1 (1, [some (.ref 124), some (.int x1)], [.ref 124], σ)).trans rfl
set_option maxRecDepth 20000 in
theorem q_26_4834 (G : Nat × (Nat → Int32)) (d : Nat) (x1 : Int32) (s0 : Int32) (σ : aH) : Lq G d M_26 (4, [some (.ref 124), some (.int x1)], [.int s0], σ) = if s0 = 0 then Lq G d M_26 (16, [some (.ref 124), some (.int x1)], [], σ) else Lq G d M_26 (7, [some (.ref 124), some (.int x1)], [], σ) :=
  (aUn_eq (tkd G.1 G.2) tmi (aRun (tkd G.1 G.2) tmi tmt d) M_26 [] 1 (4, [some (.ref 124), some (.int x1)], [.int s0], σ)).trans rfl
set_option maxRecDepth 20000 in
theorem q_26_4835 (G : Nat × (Nat → Int32)) (d : Nat) (x1 : Int32) (σ : aH) : Lq G d M_26 (16, [some (.ref 124), some (.int x1)], [], σ) = Lq G d M_26 (21, [some (.ref 124), some (.int x1)], [.int x1, .ref 125], σ) :=
  (aUn_eq (tkd G.1 G.2) tmi (aRun (tkd G.1 G.2) tmi tmt d) M_26 [] 3 (16, [some (.ref 124), some (.int x1)], [], σ)).trans rfl
set_option maxRecDepth 20000 in
theorem q_26_4836 (G : Nat × (Nat → Int32)) (d : Nat) (x1 : Int32) (s0 : Int32) (σ : aH) : Lq G d M_26 (21, [some (.ref 124), some (.int x1)], [.int s0, .ref 125], σ) = none :=
  (aUn_eq (tkd G.1 G.2) tmi (aRun (tkd G.1 G.2) tmi tmt d) M_26 [] 1 (21, [some (.ref 124), some (.int x1)], [.int s0, .ref 125], σ)).trans rfl
set_option maxRecDepth 20000 in
theorem q_26_4837 (G : Nat × (Nat → Int32)) (d : Nat) (x1 : Int32) (σ : aH) : Lq G d M_26 (7, [some (.ref 124), some (.int x1)], [], σ) = Lq G d M_26 (12, [some (.ref 124), some (.int x1)], [.int x1, .ref 125], σ) :=
  (aUn_eq (tkd G.1 G.2) tmi (aRun (tkd G.1 G.2) tmi tmt d) M_26 [] 3 (7, [some (.ref 124), some (.int x1)], [], σ)).trans rfl
set_option maxRecDepth 20000 in
theorem q_26_4838 (G : Nat × (Nat → Int32)) (d : Nat) (x1 : Int32) (s0 : Int32) (σ : aH) : Lq G d M_26 (12, [some (.ref 124), some (.int x1)], [.int s0, .ref 125], σ) = aCI (Rn G d 27 [.ref 125, .int s0] σ) fun v2 σ1 => Lq G d M_26 (15, [some (.ref 124), some (.int x1)], [.int v2], σ1) :=
  (aUn_eq (tkd G.1 G.2) tmi (aRun (tkd G.1 G.2) tmi tmt d) M_26 [] 1 (12, [some (.ref 124), some (.int x1)], [.int s0, .ref 125], σ)).trans rfl
set_option maxRecDepth 20000 in
theorem q_26_4839 (G : Nat × (Nat → Int32)) (d : Nat) (x1 : Int32) (s0 : Int32) (σ : aH) : Lq G d M_26 (15, [some (.ref 124), some (.int x1)], [.int s0], σ) = aNar .char (s0) (some (.inl (some (.int s0)), σ)) :=
  (aUn_eq (tkd G.1 G.2) tmi (aRun (tkd G.1 G.2) tmi tmt d) M_26 [] 1 (15, [some (.ref 124), some (.int x1)], [.int s0], σ)).trans rfl
set_option maxRecDepth 20000 in
theorem q_26_4840 (G : Nat × (Nat → Int32)) (d : Nat) (x1 : Int32) (σ : aH) : Lq G d M_26 (0, [some (.ref 126), some (.int x1)], [], σ) = Lq G d M_26 (1, [some (.ref 126), some (.int x1)], [.ref 126], σ) :=
  (aUn_eq (tkd G.1 G.2) tmi (aRun (tkd G.1 G.2) tmi tmt d) M_26 [] 1 (0, [some (.ref 126), some (.int x1)], [], σ)).trans rfl
set_option maxRecDepth 20000 in
theorem q_26_4841 (G : Nat × (Nat → Int32)) (d : Nat) (x1 : Int32) (σ : aH) : Lq G d M_26 (1, [some (.ref 126), some (.int x1)], [.ref 126], σ) = aCI (Rn G d 14 [.ref 126] σ) fun v2 σ1 => Lq G d M_26 (4, [some (.ref 126), some (.int x1)], [.int v2], σ1) :=
  (aUn_eq (tkd G.1 G.2) tmi (aRun (tkd G.1 G.2) tmi tmt d) M_26 [] 1 (1, [some (.ref 126), some (.int x1)], [.ref 126], σ)).trans rfl
set_option maxRecDepth 20000 in
theorem q_26_4842 (G : Nat × (Nat → Int32)) (d : Nat) (x1 : Int32) (s0 : Int32) (σ : aH) : Lq G d M_26 (4, [some (.ref 126), some (.int x1)], [.int s0], σ) = if s0 = 0 then Lq G d M_26 (16, [some (.ref 126), some (.int x1)], [], σ) else Lq G d M_26 (7, [some (.ref 126), some (.int x1)], [], σ) :=
  (aUn_eq (tkd G.1 G.2) tmi (aRun (tkd G.1 G.2) tmi tmt d) M_26 [] 1 (4, [some (.ref 126), some (.int x1)], [.int s0], σ)).trans rfl
set_option maxRecDepth 20000 in
theorem q_26_4843 (G : Nat × (Nat → Int32)) (d : Nat) (x1 : Int32) (σ : aH) : Lq G d M_26 (16, [some (.ref 126), some (.int x1)], [], σ) = Lq G d M_26 (21, [some (.ref 126), some (.int x1)], [.int x1, .ref 127], σ) :=
  (aUn_eq (tkd G.1 G.2) tmi (aRun (tkd G.1 G.2) tmi tmt d) M_26 [] 3 (16, [some (.ref 126), some (.int x1)], [], σ)).trans rfl
set_option maxRecDepth 20000 in
theorem q_26_4844 (G : Nat × (Nat → Int32)) (d : Nat) (x1 : Int32) (s0 : Int32) (σ : aH) : Lq G d M_26 (21, [some (.ref 126), some (.int x1)], [.int s0, .ref 127], σ) = none :=
  (aUn_eq (tkd G.1 G.2) tmi (aRun (tkd G.1 G.2) tmi tmt d) M_26 [] 1 (21, [some (.ref 126), some (.int x1)], [.int s0, .ref 127], σ)).trans rfl
set_option maxRecDepth 20000 in
theorem q_26_4845 (G : Nat × (Nat → Int32)) (d : Nat) (x1 : Int32) (σ : aH) : Lq G d M_26 (7, [some (.ref 126), some (.int x1)], [], σ) = Lq G d M_26 (12, [some (.ref 126), some (.int x1)], [.int x1, .ref 127], σ) :=
  (aUn_eq (tkd G.1 G.2) tmi (aRun (tkd G.1 G.2) tmi tmt d) M_26 [] 3 (7, [some (.ref 126), some (.int x1)], [], σ)).trans rfl
set_option maxRecDepth 20000 in
theorem q_26_4846 (G : Nat × (Nat → Int32)) (d : Nat) (x1 : Int32) (s0 : Int32) (σ : aH) : Lq G d M_26 (12, [some (.ref 126), some (.int x1)], [.int s0, .ref 127], σ) = aCI (Rn G d 27 [.ref 127, .int s0] σ) fun v2 σ1 => Lq G d M_26 (15, [some (.ref 126), some (.int x1)], [.int v2], σ1) :=
  (aUn_eq (tkd G.1 G.2) tmi (aRun (tkd G.1 G.2) tmi tmt d) M_26 [] 1 (12, [some (.ref 126), some (.int x1)], [.int s0, .ref 127], σ)).trans rfl
set_option maxRecDepth 20000 in
theorem q_26_4847 (G : Nat × (Nat → Int32)) (d : Nat) (x1 : Int32) (s0 : Int32) (σ : aH) : Lq G d M_26 (15, [some (.ref 126), some (.int x1)], [.int s0], σ) = aNar .char (s0) (some (.inl (some (.int s0)), σ)) :=
  (aUn_eq (tkd G.1 G.2) tmi (aRun (tkd G.1 G.2) tmi tmt d) M_26 [] 1 (15, [some (.ref 126), some (.int x1)], [.int s0], σ)).trans rfl
set_option maxRecDepth 20000 in
theorem q_26_4848 (G : Nat × (Nat → Int32)) (d : Nat) (x1 : Int32) (σ : aH) : Lq G d M_26 (0, [some (.ref 128), some (.int x1)], [], σ) = Lq G d M_26 (1, [some (.ref 128), some (.int x1)], [.ref 128], σ) :=
  (aUn_eq (tkd G.1 G.2) tmi (aRun (tkd G.1 G.2) tmi tmt d) M_26 [] 1 (0, [some (.ref 128), some (.int x1)], [], σ)).trans rfl
set_option maxRecDepth 20000 in
theorem q_26_4849 (G : Nat × (Nat → Int32)) (d : Nat) (x1 : Int32) (σ : aH) : Lq G d M_26 (1, [some (.ref 128), some (.int x1)], [.ref 128], σ) = aCI (Rn G d 14 [.ref 128] σ) fun v2 σ1 => Lq G d M_26 (4, [some (.ref 128), some (.int x1)], [.int v2], σ1) :=
  (aUn_eq (tkd G.1 G.2) tmi (aRun (tkd G.1 G.2) tmi tmt d) M_26 [] 1 (1, [some (.ref 128), some (.int x1)], [.ref 128], σ)).trans rfl
set_option maxRecDepth 20000 in
theorem q_26_4850 (G : Nat × (Nat → Int32)) (d : Nat) (x1 : Int32) (s0 : Int32) (σ : aH) : Lq G d M_26 (4, [some (.ref 128), some (.int x1)], [.int s0], σ) = if s0 = 0 then Lq G d M_26 (16, [some (.ref 128), some (.int x1)], [], σ) else Lq G d M_26 (7, [some (.ref 128), some (.int x1)], [], σ) :=
  (aUn_eq (tkd G.1 G.2) tmi (aRun (tkd G.1 G.2) tmi tmt d) M_26 [] 1 (4, [some (.ref 128), some (.int x1)], [.int s0], σ)).trans rfl
set_option maxRecDepth 20000 in
theorem q_26_4851 (G : Nat × (Nat → Int32)) (d : Nat) (x1 : Int32) (σ : aH) : Lq G d M_26 (16, [some (.ref 128), some (.int x1)], [], σ) = Lq G d M_26 (21, [some (.ref 128), some (.int x1)], [.int x1, .ref 129], σ) :=
  (aUn_eq (tkd G.1 G.2) tmi (aRun (tkd G.1 G.2) tmi tmt d) M_26 [] 3 (16, [some (.ref 128), some (.int x1)], [], σ)).trans rfl
set_option maxRecDepth 20000 in
theorem q_26_4852 (G : Nat × (Nat → Int32)) (d : Nat) (x1 : Int32) (s0 : Int32) (σ : aH) : Lq G d M_26 (21, [some (.ref 128), some (.int x1)], [.int s0, .ref 129], σ) = none :=
  (aUn_eq (tkd G.1 G.2) tmi (aRun (tkd G.1 G.2) tmi tmt d) M_26 [] 1 (21, [some (.ref 128), some (.int x1)], [.int s0, .ref 129], σ)).trans rfl
set_option maxRecDepth 20000 in
theorem q_26_4853 (G : Nat × (Nat → Int32)) (d : Nat) (x1 : Int32) (σ : aH) : Lq G d M_26 (7, [some (.ref 128), some (.int x1)], [], σ) = Lq G d M_26 (12, [some (.ref 128), some (.int x1)], [.int x1, .ref 129], σ) :=
  (aUn_eq (tkd G.1 G.2) tmi (aRun (tkd G.1 G.2) tmi tmt d) M_26 [] 3 (7, [some (.ref 128), some (.int x1)], [], σ)).trans rfl
set_option maxRecDepth 20000 in
theorem q_26_4854 (G : Nat × (Nat → Int32)) (d : Nat) (x1 : Int32) (s0 : Int32) (σ : aH) : Lq G d M_26 (12, [some (.ref 128), some (.int x1)], [.int s0, .ref 129], σ) = aCI (Rn G d 27 [.ref 129, .int s0] σ) fun v2 σ1 => Lq G d M_26 (15, [some (.ref 128), some (.int x1)], [.int v2], σ1) :=
  (aUn_eq (tkd G.1 G.2) tmi (aRun (tkd G.1 G.2) tmi tmt d) M_26 [] 1 (12, [some (.ref 128), some (.int x1)], [.int s0, .ref 129], σ)).trans rfl
set_option maxRecDepth 20000 in
theorem q_26_4855 (G : Nat × (Nat → Int32)) (d : Nat) (x1 : Int32) (s0 : Int32) (σ : aH) : Lq G d M_26 (15, [some (.ref 128), some (.int x1)], [.int s0], σ) = aNar .char (s0) (some (.inl (some (.int s0)), σ)) :=
  (aUn_eq (tkd G.1 G.2) tmi (aRun (tkd G.1 G.2) tmi tmt d) M_26 [] 1 (15, [some (.ref 128), some (.int x1)], [.int s0], σ)).trans rfl
set_option maxRecDepth 20000 in
theorem q_34_4856 (G : Nat × (Nat → Int32)) (d : Nat) (rx1 : Nat) (x2 : Int32) (x3 : Int32) (σ : aH) : Lq G d M_34 (0, [some (.ref 1), some (.ref rx1), some (.int x2), some (.int x3)], [], σ) = Lq G d M_34 (2, [some (.ref 1), some (.ref rx1), some (.int x2), some (.int x3)], [.ref rx1, .ref 1], σ) :=
  (aUn_eq (tkd G.1 G.2) tmi (aRun (tkd G.1 G.2) tmi tmt d) M_34 [] 2 (0, [some (.ref 1), some (.ref rx1), some (.int x2), some (.int x3)], [], σ)).trans rfl
set_option maxRecDepth 20000 in
theorem q_34_4857 (G : Nat × (Nat → Int32)) (d : Nat) (rx1 : Nat) (x2 : Int32) (x3 : Int32) (rs0 : Nat) (σ : aH) : Lq G d M_34 (2, [some (.ref 1), some (.ref rx1), some (.int x2), some (.int x3)], [.ref rs0, .ref 1], σ) = aCI (Rn G d 35 [.ref 1, .ref rs0] σ) fun v2 σ1 => Lq G d M_34 (5, [some (.ref 1), some (.ref rx1), some (.int x2), some (.int x3)], [.int v2], σ1) :=
  (aUn_eq (tkd G.1 G.2) tmi (aRun (tkd G.1 G.2) tmi tmt d) M_34 [] 1 (2, [some (.ref 1), some (.ref rx1), some (.int x2), some (.int x3)], [.ref rs0, .ref 1], σ)).trans rfl
set_option maxRecDepth 20000 in
theorem q_34_4858 (G : Nat × (Nat → Int32)) (d : Nat) (rx1 : Nat) (x2 : Int32) (x3 : Int32) (s0 : Int32) (σ : aH) : Lq G d M_34 (5, [some (.ref 1), some (.ref rx1), some (.int x2), some (.int x3)], [.int s0], σ) = Lq G d M_34 (9, [some (.ref 1), some (.ref rx1), some (.int x2), some (.int x3)], [.int x3, .int x2, .ref 1], σ) :=
  (aUn_eq (tkd G.1 G.2) tmi (aRun (tkd G.1 G.2) tmi tmt d) M_34 [] 4 (5, [some (.ref 1), some (.ref rx1), some (.int x2), some (.int x3)], [.int s0], σ)).trans rfl
set_option maxRecDepth 20000 in
theorem q_34_4859 (G : Nat × (Nat → Int32)) (d : Nat) (rx1 : Nat) (x2 : Int32) (x3 : Int32) (s0 : Int32) (s1 : Int32) (σ : aH) : Lq G d M_34 (9, [some (.ref 1), some (.ref rx1), some (.int x2), some (.int x3)], [.int s0, .int s1, .ref 1], σ) = aCI (Rn G d 36 [.ref 1, .int s1, .int s0] σ) fun v2 σ1 => Lq G d M_34 (12, [some (.ref 1), some (.ref rx1), some (.int x2), some (.int x3)], [.int v2], σ1) :=
  (aUn_eq (tkd G.1 G.2) tmi (aRun (tkd G.1 G.2) tmi tmt d) M_34 [] 1 (9, [some (.ref 1), some (.ref rx1), some (.int x2), some (.int x3)], [.int s0, .int s1, .ref 1], σ)).trans rfl
set_option maxRecDepth 20000 in
theorem q_34_4860 (G : Nat × (Nat → Int32)) (d : Nat) (rx1 : Nat) (x2 : Int32) (x3 : Int32) (s0 : Int32) (σ : aH) : Lq G d M_34 (12, [some (.ref 1), some (.ref rx1), some (.int x2), some (.int x3)], [.int s0], σ) = some (.inl (some (.int s0)), σ) :=
  (aUn_eq (tkd G.1 G.2) tmi (aRun (tkd G.1 G.2) tmi tmt d) M_34 [] 1 (12, [some (.ref 1), some (.ref rx1), some (.int x2), some (.int x3)], [.int s0], σ)).trans rfl
set_option maxRecDepth 20000 in
theorem q_38_4861 (G : Nat × (Nat → Int32)) (d : Nat) (rx1 : Nat) (x2 : Int32) (x3 : Int32) (x4 : Int32) (σ : aH) : Lq G d M_38 (0, [some (.ref 1), some (.ref rx1), some (.int x2), some (.int x3), some (.int x4)], [], σ) = Lq G d M_38 (2, [some (.ref 1), some (.ref rx1), some (.int x2), some (.int x3), some (.int x4)], [.ref rx1, .ref 1], σ) :=
  (aUn_eq (tkd G.1 G.2) tmi (aRun (tkd G.1 G.2) tmi tmt d) M_38 [] 2 (0, [some (.ref 1), some (.ref rx1), some (.int x2), some (.int x3), some (.int x4)], [], σ)).trans rfl
set_option maxRecDepth 20000 in
theorem q_38_4862 (G : Nat × (Nat → Int32)) (d : Nat) (rx1 : Nat) (x2 : Int32) (x3 : Int32) (x4 : Int32) (rs0 : Nat) (σ : aH) : Lq G d M_38 (2, [some (.ref 1), some (.ref rx1), some (.int x2), some (.int x3), some (.int x4)], [.ref rs0, .ref 1], σ) = aCI (Rn G d 39 [.ref 1, .ref rs0] σ) fun v2 σ1 => Lq G d M_38 (5, [some (.ref 1), some (.ref rx1), some (.int x2), some (.int x3), some (.int x4)], [.int v2], σ1) :=
  (aUn_eq (tkd G.1 G.2) tmi (aRun (tkd G.1 G.2) tmi tmt d) M_38 [] 1 (2, [some (.ref 1), some (.ref rx1), some (.int x2), some (.int x3), some (.int x4)], [.ref rs0, .ref 1], σ)).trans rfl
set_option maxRecDepth 20000 in
theorem q_38_4863 (G : Nat × (Nat → Int32)) (d : Nat) (rx1 : Nat) (x2 : Int32) (x3 : Int32) (x4 : Int32) (s0 : Int32) (σ : aH) : Lq G d M_38 (5, [some (.ref 1), some (.ref rx1), some (.int x2), some (.int x3), some (.int x4)], [.int s0], σ) = if s0 = 0 then Lq G d M_38 (17, [some (.ref 1), some (.ref rx1), some (.int x2), some (.int x3), some (.int x4)], [], σ) else Lq G d M_38 (8, [some (.ref 1), some (.ref rx1), some (.int x2), some (.int x3), some (.int x4)], [], σ) :=
  (aUn_eq (tkd G.1 G.2) tmi (aRun (tkd G.1 G.2) tmi tmt d) M_38 [] 1 (5, [some (.ref 1), some (.ref rx1), some (.int x2), some (.int x3), some (.int x4)], [.int s0], σ)).trans rfl
set_option maxRecDepth 20000 in
theorem q_38_4864 (G : Nat × (Nat → Int32)) (d : Nat) (rx1 : Nat) (x2 : Int32) (x3 : Int32) (x4 : Int32) (σ : aH) : Lq G d M_38 (17, [some (.ref 1), some (.ref rx1), some (.int x2), some (.int x3), some (.int x4)], [], σ) = Lq G d M_38 (19, [some (.ref 1), some (.ref rx1), some (.int x2), some (.int x3), some (.int x4)], [.int x4], σ) :=
  (aUn_eq (tkd G.1 G.2) tmi (aRun (tkd G.1 G.2) tmi tmt d) M_38 [] 1 (17, [some (.ref 1), some (.ref rx1), some (.int x2), some (.int x3), some (.int x4)], [], σ)).trans rfl
set_option maxRecDepth 20000 in
theorem q_38_4865 (G : Nat × (Nat → Int32)) (d : Nat) (rx1 : Nat) (x2 : Int32) (x3 : Int32) (x4 : Int32) (s0 : Int32) (σ : aH) : Lq G d M_38 (19, [some (.ref 1), some (.ref rx1), some (.int x2), some (.int x3), some (.int x4)], [.int s0], σ) = some (.inl (some (.int s0)), σ) :=
  (aUn_eq (tkd G.1 G.2) tmi (aRun (tkd G.1 G.2) tmi tmt d) M_38 [] 1 (19, [some (.ref 1), some (.ref rx1), some (.int x2), some (.int x3), some (.int x4)], [.int s0], σ)).trans rfl
set_option maxRecDepth 20000 in
theorem q_38_4866 (G : Nat × (Nat → Int32)) (d : Nat) (rx1 : Nat) (x2 : Int32) (x3 : Int32) (x4 : Int32) (σ : aH) : Lq G d M_38 (8, [some (.ref 1), some (.ref rx1), some (.int x2), some (.int x3), some (.int x4)], [], σ) = Lq G d M_38 (11, [some (.ref 1), some (.ref rx1), some (.int x2), some (.int x3), some (.int x4)], [.int x3, .int x2, .ref 1], σ) :=
  (aUn_eq (tkd G.1 G.2) tmi (aRun (tkd G.1 G.2) tmi tmt d) M_38 [] 3 (8, [some (.ref 1), some (.ref rx1), some (.int x2), some (.int x3), some (.int x4)], [], σ)).trans rfl
set_option maxRecDepth 20000 in
theorem q_38_4867 (G : Nat × (Nat → Int32)) (d : Nat) (rx1 : Nat) (x2 : Int32) (x3 : Int32) (x4 : Int32) (s0 : Int32) (s1 : Int32) (σ : aH) : Lq G d M_38 (11, [some (.ref 1), some (.ref rx1), some (.int x2), some (.int x3), some (.int x4)], [.int s0, .int s1, .ref 1], σ) = aCI (Rn G d 36 [.ref 1, .int s1, .int s0] σ) fun v2 σ1 => Lq G d M_38 (14, [some (.ref 1), some (.ref rx1), some (.int x2), some (.int x3), some (.int x4)], [.int v2], σ1) :=
  (aUn_eq (tkd G.1 G.2) tmi (aRun (tkd G.1 G.2) tmi tmt d) M_38 [] 1 (11, [some (.ref 1), some (.ref rx1), some (.int x2), some (.int x3), some (.int x4)], [.int s0, .int s1, .ref 1], σ)).trans rfl
set_option maxRecDepth 20000 in
theorem q_38_4868 (G : Nat × (Nat → Int32)) (d : Nat) (rx1 : Nat) (x2 : Int32) (x3 : Int32) (x4 : Int32) (s0 : Int32) (σ : aH) : Lq G d M_38 (14, [some (.ref 1), some (.ref rx1), some (.int x2), some (.int x3), some (.int x4)], [.int s0], σ) = Lq G d M_38 (19, [some (.ref 1), some (.ref rx1), some (.int x2), some (.int x3), some (.int x4)], [.int s0], σ) :=
  (aUn_eq (tkd G.1 G.2) tmi (aRun (tkd G.1 G.2) tmi tmt d) M_38 [] 1 (14, [some (.ref 1), some (.ref rx1), some (.int x2), some (.int x3), some (.int x4)], [.int s0], σ)).trans rfl
set_option maxRecDepth 20000 in
theorem q_45_4869 (G : Nat × (Nat → Int32)) (d : Nat) (x1 : Int32) (σ : aH) : Lq G d M_45 (0, [some (.ref 1), some (.int x1)], [], σ) = Lq G d M_45 (5, [some (.ref 1), some (.int x1)], [.int (3 : Int32), .int (σ.1 1 4)], σ) :=
  (aUn_eq (tkd G.1 G.2) tmi (aRun (tkd G.1 G.2) tmi tmt d) M_45 [] 3 (0, [some (.ref 1), some (.int x1)], [], σ)).trans rfl
set_option maxRecDepth 20000 in
theorem q_45_4870 (G : Nat × (Nat → Int32)) (d : Nat) (x1 : Int32) (s0 : Int32) (s1 : Int32) (σ : aH) : Lq G d M_45 (5, [some (.ref 1), some (.int x1)], [.int s0, .int s1], σ) = if s1 = s0 then Lq G d M_45 (8, [some (.ref 1), some (.int x1)], [], σ) else Lq G d M_45 (24, [some (.ref 1), some (.int x1)], [], σ) :=
  (aUn_eq (tkd G.1 G.2) tmi (aRun (tkd G.1 G.2) tmi tmt d) M_45 [] 1 (5, [some (.ref 1), some (.int x1)], [.int s0, .int s1], σ)).trans rfl
set_option maxRecDepth 20000 in
theorem q_45_4871 (G : Nat × (Nat → Int32)) (d : Nat) (x1 : Int32) (σ : aH) : Lq G d M_45 (8, [some (.ref 1), some (.int x1)], [], σ) = Lq G d M_45 (13, [some (.ref 1), some (.int x1)], [.int (σ.1 1 3), .ref 1], σ) :=
  (aUn_eq (tkd G.1 G.2) tmi (aRun (tkd G.1 G.2) tmi tmt d) M_45 [] 3 (8, [some (.ref 1), some (.int x1)], [], σ)).trans rfl
set_option maxRecDepth 20000 in
theorem q_45_4872 (G : Nat × (Nat → Int32)) (d : Nat) (x1 : Int32) (s0 : Int32) (σ : aH) : Lq G d M_45 (13, [some (.ref 1), some (.int x1)], [.int s0, .ref 1], σ) = aCI (Rn G d 9 [.ref 1, .int s0] σ) fun v2 σ1 => Lq G d M_45 (16, [some (.ref 1), some (.int x1)], [.int v2], σ1) :=
  (aUn_eq (tkd G.1 G.2) tmi (aRun (tkd G.1 G.2) tmi tmt d) M_45 [] 1 (13, [some (.ref 1), some (.int x1)], [.int s0, .ref 1], σ)).trans rfl
set_option maxRecDepth 20000 in
theorem q_45_4873 (G : Nat × (Nat → Int32)) (d : Nat) (x1 : Int32) (s0 : Int32) (σ : aH) : Lq G d M_45 (16, [some (.ref 1), some (.int x1)], [.int s0], σ) = Lq G d M_45 (17, [some (.ref 1), some (.int x1)], [.int x1, .int s0], σ) :=
  (aUn_eq (tkd G.1 G.2) tmi (aRun (tkd G.1 G.2) tmi tmt d) M_45 [] 1 (16, [some (.ref 1), some (.int x1)], [.int s0], σ)).trans rfl
set_option maxRecDepth 20000 in
theorem q_45_4874 (G : Nat × (Nat → Int32)) (d : Nat) (x1 : Int32) (s0 : Int32) (s1 : Int32) (σ : aH) : Lq G d M_45 (17, [some (.ref 1), some (.int x1)], [.int s0, .int s1], σ) = if s1 = s0 then Lq G d M_45 (20, [some (.ref 1), some (.int x1)], [], σ) else Lq G d M_45 (24, [some (.ref 1), some (.int x1)], [], σ) :=
  (aUn_eq (tkd G.1 G.2) tmi (aRun (tkd G.1 G.2) tmi tmt d) M_45 [] 1 (17, [some (.ref 1), some (.int x1)], [.int s0, .int s1], σ)).trans rfl
set_option maxRecDepth 20000 in
theorem q_45_4875 (G : Nat × (Nat → Int32)) (d : Nat) (x1 : Int32) (σ : aH) : Lq G d M_45 (20, [some (.ref 1), some (.int x1)], [], σ) = Lq G d M_45 (25, [some (.ref 1), some (.int x1)], [.int (1 : Int32)], σ) :=
  (aUn_eq (tkd G.1 G.2) tmi (aRun (tkd G.1 G.2) tmi tmt d) M_45 [] 2 (20, [some (.ref 1), some (.int x1)], [], σ)).trans rfl
set_option maxRecDepth 20000 in
theorem q_45_4876 (G : Nat × (Nat → Int32)) (d : Nat) (x1 : Int32) (s0 : Int32) (σ : aH) : Lq G d M_45 (25, [some (.ref 1), some (.int x1)], [.int s0], σ) = aNar .boolean (s0) (some (.inl (some (.int s0)), σ)) :=
  (aUn_eq (tkd G.1 G.2) tmi (aRun (tkd G.1 G.2) tmi tmt d) M_45 [] 1 (25, [some (.ref 1), some (.int x1)], [.int s0], σ)).trans rfl
set_option maxRecDepth 20000 in
theorem q_45_4877 (G : Nat × (Nat → Int32)) (d : Nat) (x1 : Int32) (σ : aH) : Lq G d M_45 (24, [some (.ref 1), some (.int x1)], [], σ) = Lq G d M_45 (25, [some (.ref 1), some (.int x1)], [.int (0 : Int32)], σ) :=
  (aUn_eq (tkd G.1 G.2) tmi (aRun (tkd G.1 G.2) tmi tmt d) M_45 [] 1 (24, [some (.ref 1), some (.int x1)], [], σ)).trans rfl
set_option maxRecDepth 20000 in
theorem q_41_4878 (G : Nat × (Nat → Int32)) (d : Nat) (rx1 : Nat) (σ : aH) : Lq G d M_41 (0, [some (.ref 1), some (.ref rx1), none], [], σ) = Lq G d M_41 (4, [some (.ref 1), some (.ref rx1), none], [.int (σ.1 1 2)], σ) :=
  (aUn_eq (tkd G.1 G.2) tmi (aRun (tkd G.1 G.2) tmi tmt d) M_41 [] 2 (0, [some (.ref 1), some (.ref rx1), none], [], σ)).trans rfl
set_option maxRecDepth 20000 in
theorem q_41_4879 (G : Nat × (Nat → Int32)) (d : Nat) (rx1 : Nat) (s0 : Int32) (σ : aH) : Lq G d M_41 (4, [some (.ref 1), some (.ref rx1), none], [.int s0], σ) = if s0 = 0 then Lq G d M_41 (7, [some (.ref 1), some (.ref rx1), none], [], σ) else Lq G d M_41 (17, [some (.ref 1), some (.ref rx1), none], [], σ) :=
  (aUn_eq (tkd G.1 G.2) tmi (aRun (tkd G.1 G.2) tmi tmt d) M_41 [] 1 (4, [some (.ref 1), some (.ref rx1), none], [.int s0], σ)).trans rfl
set_option maxRecDepth 20000 in
theorem q_41_4880 (G : Nat × (Nat → Int32)) (d : Nat) (rx1 : Nat) (σ : aH) : Lq G d M_41 (7, [some (.ref 1), some (.ref rx1), none], [], σ) = Lq G d M_41 (9, [some (.ref 1), some (.ref rx1), none], [.ref rx1, .ref 1], σ) :=
  (aUn_eq (tkd G.1 G.2) tmi (aRun (tkd G.1 G.2) tmi tmt d) M_41 [] 2 (7, [some (.ref 1), some (.ref rx1), none], [], σ)).trans rfl
set_option maxRecDepth 20000 in
theorem q_41_4881 (G : Nat × (Nat → Int32)) (d : Nat) (rx1 : Nat) (rs0 : Nat) (σ : aH) : Lq G d M_41 (9, [some (.ref 1), some (.ref rx1), none], [.ref rs0, .ref 1], σ) = aCI (Rn G d 25 [.ref 1, .ref rs0] σ) fun v2 σ1 => Lq G d M_41 (12, [some (.ref 1), some (.ref rx1), none], [.int v2], σ1) :=
  (aUn_eq (tkd G.1 G.2) tmi (aRun (tkd G.1 G.2) tmi tmt d) M_41 [] 1 (9, [some (.ref 1), some (.ref rx1), none], [.ref rs0, .ref 1], σ)).trans rfl
set_option maxRecDepth 20000 in
theorem q_41_4882 (G : Nat × (Nat → Int32)) (d : Nat) (rx1 : Nat) (s0 : Int32) (σ : aH) : Lq G d M_41 (12, [some (.ref 1), some (.ref rx1), none], [.int s0], σ) = Lq G d M_41 (20, [some (.ref 1), some (.ref rx1), some (.int (s0 + (1 : Int32)))], [.int (s0 + (1 : Int32))], σ) :=
  (aUn_eq (tkd G.1 G.2) tmi (aRun (tkd G.1 G.2) tmi tmt d) M_41 [] 5 (12, [some (.ref 1), some (.ref rx1), none], [.int s0], σ)).trans rfl
set_option maxRecDepth 20000 in
theorem q_41_4883 (G : Nat × (Nat → Int32)) (d : Nat) (rx1 : Nat) (x2 : Int32) (s0 : Int32) (σ : aH) : Lq G d M_41 (20, [some (.ref 1), some (.ref rx1), some (.int x2)], [.int s0], σ) = if s0 ≤ 0 then Lq G d M_41 (27, [some (.ref 1), some (.ref rx1), some (.int x2)], [], σ) else Lq G d M_41 (23, [some (.ref 1), some (.ref rx1), some (.int x2)], [], σ) :=
  (aUn_eq (tkd G.1 G.2) tmi (aRun (tkd G.1 G.2) tmi tmt d) M_41 [] 1 (20, [some (.ref 1), some (.ref rx1), some (.int x2)], [.int s0], σ)).trans rfl
set_option maxRecDepth 20000 in
theorem q_41_4884 (G : Nat × (Nat → Int32)) (d : Nat) (rx1 : Nat) (x2 : Int32) (σ : aH) : Lq G d M_41 (27, [some (.ref 1), some (.ref rx1), some (.int x2)], [], σ) = Lq G d M_41 (28, [some (.ref 1), some (.ref rx1), some (.int x2)], [.int x2], σ) :=
  (aUn_eq (tkd G.1 G.2) tmi (aRun (tkd G.1 G.2) tmi tmt d) M_41 [] 1 (27, [some (.ref 1), some (.ref rx1), some (.int x2)], [], σ)).trans rfl
set_option maxRecDepth 20000 in
theorem q_41_4885 (G : Nat × (Nat → Int32)) (d : Nat) (rx1 : Nat) (x2 : Int32) (s0 : Int32) (σ : aH) : Lq G d M_41 (28, [some (.ref 1), some (.ref rx1), some (.int x2)], [.int s0], σ) = some (.inl (some (.int s0)), σ) :=
  (aUn_eq (tkd G.1 G.2) tmi (aRun (tkd G.1 G.2) tmi tmt d) M_41 [] 1 (28, [some (.ref 1), some (.ref rx1), some (.int x2)], [.int s0], σ)).trans rfl
set_option maxRecDepth 20000 in
theorem q_41_4886 (G : Nat × (Nat → Int32)) (d : Nat) (rx1 : Nat) (x2 : Int32) (σ : aH) : Lq G d M_41 (23, [some (.ref 1), some (.ref rx1), some (.int x2)], [], σ) = Lq G d M_41 (24, [some (.ref 1), some (.ref rx1), some (.int x2)], [.ref 1], σ) :=
  (aUn_eq (tkd G.1 G.2) tmi (aRun (tkd G.1 G.2) tmi tmt d) M_41 [] 1 (23, [some (.ref 1), some (.ref rx1), some (.int x2)], [], σ)).trans rfl
set_option maxRecDepth 20000 in
theorem q_41_4887 (G : Nat × (Nat → Int32)) (d : Nat) (rx1 : Nat) (x2 : Int32) (σ : aH) : Lq G d M_41 (24, [some (.ref 1), some (.ref rx1), some (.int x2)], [.ref 1], σ) = aCV (Rn G d 8 [.ref 1] σ) fun σ1 => Lq G d M_41 (27, [some (.ref 1), some (.ref rx1), some (.int x2)], [], σ1) :=
  (aUn_eq (tkd G.1 G.2) tmi (aRun (tkd G.1 G.2) tmi tmt d) M_41 [] 1 (24, [some (.ref 1), some (.ref rx1), some (.int x2)], [.ref 1], σ)).trans rfl
set_option maxRecDepth 20000 in
theorem q_41_4888 (G : Nat × (Nat → Int32)) (d : Nat) (rx1 : Nat) (σ : aH) : Lq G d M_41 (17, [some (.ref 1), some (.ref rx1), none], [], σ) = Lq G d M_41 (20, [some (.ref 1), some (.ref rx1), some (.int (0 : Int32))], [.int (0 : Int32)], σ) :=
  (aUn_eq (tkd G.1 G.2) tmi (aRun (tkd G.1 G.2) tmi tmt d) M_41 [] 3 (17, [some (.ref 1), some (.ref rx1), none], [], σ)).trans rfl
set_option maxRecDepth 20000 in
theorem q_39_4889 (G : Nat × (Nat → Int32)) (d : Nat) (rx1 : Nat) (σ : aH) : Lq G d M_39 (0, [some (.ref 1), some (.ref rx1), none], [], σ) = Lq G d M_39 (4, [some (.ref 1), some (.ref rx1), none], [.int (σ.1 1 2)], σ) :=
  (aUn_eq (tkd G.1 G.2) tmi (aRun (tkd G.1 G.2) tmi tmt d) M_39 [] 2 (0, [some (.ref 1), some (.ref rx1), none], [], σ)).trans rfl
set_option maxRecDepth 20000 in
theorem q_39_4890 (G : Nat × (Nat → Int32)) (d : Nat) (rx1 : Nat) (s0 : Int32) (σ : aH) : Lq G d M_39 (4, [some (.ref 1), some (.ref rx1), none], [.int s0], σ) = if s0 = 0 then Lq G d M_39 (7, [some (.ref 1), some (.ref rx1), none], [], σ) else Lq G d M_39 (19, [some (.ref 1), some (.ref rx1), none], [], σ) :=
  (aUn_eq (tkd G.1 G.2) tmi (aRun (tkd G.1 G.2) tmi tmt d) M_39 [] 1 (4, [some (.ref 1), some (.ref rx1), none], [.int s0], σ)).trans rfl
set_option maxRecDepth 20000 in
theorem q_39_4891 (G : Nat × (Nat → Int32)) (d : Nat) (rx1 : Nat) (σ : aH) : Lq G d M_39 (7, [some (.ref 1), some (.ref rx1), none], [], σ) = Lq G d M_39 (9, [some (.ref 1), some (.ref rx1), none], [.ref rx1, .ref 1], σ) :=
  (aUn_eq (tkd G.1 G.2) tmi (aRun (tkd G.1 G.2) tmi tmt d) M_39 [] 2 (7, [some (.ref 1), some (.ref rx1), none], [], σ)).trans rfl
set_option maxRecDepth 20000 in
theorem q_39_4892 (G : Nat × (Nat → Int32)) (d : Nat) (rx1 : Nat) (rs0 : Nat) (σ : aH) : Lq G d M_39 (9, [some (.ref 1), some (.ref rx1), none], [.ref rs0, .ref 1], σ) = aCI (Rn G d 25 [.ref 1, .ref rs0] σ) fun v2 σ1 => Lq G d M_39 (12, [some (.ref 1), some (.ref rx1), none], [.int v2], σ1) :=
  (aUn_eq (tkd G.1 G.2) tmi (aRun (tkd G.1 G.2) tmi tmt d) M_39 [] 1 (9, [some (.ref 1), some (.ref rx1), none], [.ref rs0, .ref 1], σ)).trans rfl
set_option maxRecDepth 20000 in
theorem q_39_4893 (G : Nat × (Nat → Int32)) (d : Nat) (rx1 : Nat) (s0 : Int32) (σ : aH) : Lq G d M_39 (12, [some (.ref 1), some (.ref rx1), none], [.int s0], σ) = if s0 = 0 then Lq G d M_39 (15, [some (.ref 1), some (.ref rx1), none], [], σ) else Lq G d M_39 (19, [some (.ref 1), some (.ref rx1), none], [], σ) :=
  (aUn_eq (tkd G.1 G.2) tmi (aRun (tkd G.1 G.2) tmi tmt d) M_39 [] 1 (12, [some (.ref 1), some (.ref rx1), none], [.int s0], σ)).trans rfl
set_option maxRecDepth 20000 in
theorem q_39_4894 (G : Nat × (Nat → Int32)) (d : Nat) (rx1 : Nat) (σ : aH) : Lq G d M_39 (15, [some (.ref 1), some (.ref rx1), none], [], σ) = Lq G d M_39 (22, [some (.ref 1), some (.ref rx1), some (.int (1 : Int32))], [.int (1 : Int32)], σ) :=
  (aUn_eq (tkd G.1 G.2) tmi (aRun (tkd G.1 G.2) tmi tmt d) M_39 [] 4 (15, [some (.ref 1), some (.ref rx1), none], [], σ)).trans rfl
set_option maxRecDepth 20000 in
theorem q_39_4895 (G : Nat × (Nat → Int32)) (d : Nat) (rx1 : Nat) (x2 : Int32) (s0 : Int32) (σ : aH) : Lq G d M_39 (22, [some (.ref 1), some (.ref rx1), some (.int x2)], [.int s0], σ) = if s0 = 0 then Lq G d M_39 (29, [some (.ref 1), some (.ref rx1), some (.int x2)], [], σ) else Lq G d M_39 (25, [some (.ref 1), some (.ref rx1), some (.int x2)], [], σ) :=
  (aUn_eq (tkd G.1 G.2) tmi (aRun (tkd G.1 G.2) tmi tmt d) M_39 [] 1 (22, [some (.ref 1), some (.ref rx1), some (.int x2)], [.int s0], σ)).trans rfl
set_option maxRecDepth 20000 in
theorem q_39_4896 (G : Nat × (Nat → Int32)) (d : Nat) (rx1 : Nat) (x2 : Int32) (σ : aH) : Lq G d M_39 (29, [some (.ref 1), some (.ref rx1), some (.int x2)], [], σ) = Lq G d M_39 (30, [some (.ref 1), some (.ref rx1), some (.int x2)], [.int x2], σ) :=
  (aUn_eq (tkd G.1 G.2) tmi (aRun (tkd G.1 G.2) tmi tmt d) M_39 [] 1 (29, [some (.ref 1), some (.ref rx1), some (.int x2)], [], σ)).trans rfl
set_option maxRecDepth 20000 in
theorem q_39_4897 (G : Nat × (Nat → Int32)) (d : Nat) (rx1 : Nat) (x2 : Int32) (s0 : Int32) (σ : aH) : Lq G d M_39 (30, [some (.ref 1), some (.ref rx1), some (.int x2)], [.int s0], σ) = aNar .boolean (s0) (some (.inl (some (.int s0)), σ)) :=
  (aUn_eq (tkd G.1 G.2) tmi (aRun (tkd G.1 G.2) tmi tmt d) M_39 [] 1 (30, [some (.ref 1), some (.ref rx1), some (.int x2)], [.int s0], σ)).trans rfl
set_option maxRecDepth 20000 in
theorem q_39_4898 (G : Nat × (Nat → Int32)) (d : Nat) (rx1 : Nat) (x2 : Int32) (σ : aH) : Lq G d M_39 (25, [some (.ref 1), some (.ref rx1), some (.int x2)], [], σ) = Lq G d M_39 (26, [some (.ref 1), some (.ref rx1), some (.int x2)], [.ref 1], σ) :=
  (aUn_eq (tkd G.1 G.2) tmi (aRun (tkd G.1 G.2) tmi tmt d) M_39 [] 1 (25, [some (.ref 1), some (.ref rx1), some (.int x2)], [], σ)).trans rfl
set_option maxRecDepth 20000 in
theorem q_39_4899 (G : Nat × (Nat → Int32)) (d : Nat) (rx1 : Nat) (x2 : Int32) (σ : aH) : Lq G d M_39 (26, [some (.ref 1), some (.ref rx1), some (.int x2)], [.ref 1], σ) = aCV (Rn G d 8 [.ref 1] σ) fun σ1 => Lq G d M_39 (29, [some (.ref 1), some (.ref rx1), some (.int x2)], [], σ1) :=
  (aUn_eq (tkd G.1 G.2) tmi (aRun (tkd G.1 G.2) tmi tmt d) M_39 [] 1 (26, [some (.ref 1), some (.ref rx1), some (.int x2)], [.ref 1], σ)).trans rfl
set_option maxRecDepth 20000 in
theorem q_39_4900 (G : Nat × (Nat → Int32)) (d : Nat) (rx1 : Nat) (σ : aH) : Lq G d M_39 (19, [some (.ref 1), some (.ref rx1), none], [], σ) = Lq G d M_39 (22, [some (.ref 1), some (.ref rx1), some (.int (0 : Int32))], [.int (0 : Int32)], σ) :=
  (aUn_eq (tkd G.1 G.2) tmi (aRun (tkd G.1 G.2) tmi tmt d) M_39 [] 3 (19, [some (.ref 1), some (.ref rx1), none], [], σ)).trans rfl
set_option maxRecDepth 20000 in
theorem q_52_4901 (G : Nat × (Nat → Int32)) (d : Nat) (x2 : Int32) (σ : aH) : Lq G d M_52 (0, [some (.ref 11), some (.ref 7), some (.int x2), none], [], σ) = Lq G d M_52 (5, [some (.ref 11), some (.ref 7), some (.int x2), some (.int (σ.1 11 1))], [], σ) :=
  (aUn_eq (tkd G.1 G.2) tmi (aRun (tkd G.1 G.2) tmi tmt d) M_52 [] 3 (0, [some (.ref 11), some (.ref 7), some (.int x2), none], [], σ)).trans rfl
set_option maxRecDepth 20000 in
theorem q_52_4902 (G : Nat × (Nat → Int32)) (d : Nat) (x2 : Int32) (x3 : Int32) (σ : aH) : Lq G d M_52 (5, [some (.ref 11), some (.ref 7), some (.int x2), some (.int x3)], [], σ) = Lq G d M_52 (6, [some (.ref 11), some (.ref 7), some (.int x2), some (.int x3)], [.int x3], σ) :=
  (aUn_eq (tkd G.1 G.2) tmi (aRun (tkd G.1 G.2) tmi tmt d) M_52 [] 1 (5, [some (.ref 11), some (.ref 7), some (.int x2), some (.int x3)], [], σ)).trans rfl
set_option maxRecDepth 20000 in
theorem q_52_4903 (G : Nat × (Nat → Int32)) (d : Nat) (x2 : Int32) (x3 : Int32) (s0 : Int32) (σ : aH) : Lq G d M_52 (6, [some (.ref 11), some (.ref 7), some (.int x2), some (.int x3)], [.int s0], σ) = if s0 ≤ 0 then Lq G d M_52 (49, [some (.ref 11), some (.ref 7), some (.int x2), some (.int x3)], [], σ) else Lq G d M_52 (9, [some (.ref 11), some (.ref 7), some (.int x2), some (.int x3)], [], σ) :=
  (aUn_eq (tkd G.1 G.2) tmi (aRun (tkd G.1 G.2) tmi tmt d) M_52 [] 1 (6, [some (.ref 11), some (.ref 7), some (.int x2), some (.int x3)], [.int s0], σ)).trans rfl
set_option maxRecDepth 20000 in
theorem q_52_4904 (G : Nat × (Nat → Int32)) (d : Nat) (x2 : Int32) (x3 : Int32) (σ : aH) : Lq G d M_52 (49, [some (.ref 11), some (.ref 7), some (.int x2), some (.int x3)], [], σ) = some (.inl none, σ) :=
  (aUn_eq (tkd G.1 G.2) tmi (aRun (tkd G.1 G.2) tmi tmt d) M_52 [] 1 (49, [some (.ref 11), some (.ref 7), some (.int x2), some (.int x3)], [], σ)).trans rfl
set_option maxRecDepth 20000 in
theorem q_52_4905 (G : Nat × (Nat → Int32)) (d : Nat) (x2 : Int32) (x3 : Int32) (σ : aH) : Lq G d M_52 (9, [some (.ref 11), some (.ref 7), some (.int x2), some (.int x3)], [], σ) = Lq G d M_52 (10, [some (.ref 11), some (.ref 7), some (.int x2), some (.int x3)], [.ref 11], σ) :=
  (aUn_eq (tkd G.1 G.2) tmi (aRun (tkd G.1 G.2) tmi tmt d) M_52 [] 1 (9, [some (.ref 11), some (.ref 7), some (.int x2), some (.int x3)], [], σ)).trans rfl
set_option maxRecDepth 20000 in
theorem q_52_4906 (G : Nat × (Nat → Int32)) (d : Nat) (x2 : Int32) (x3 : Int32) (σ : aH) : Lq G d M_52 (10, [some (.ref 11), some (.ref 7), some (.int x2), some (.int x3)], [.ref 11], σ) = aCI (Rn G d 53 [.ref 11] σ) fun v2 σ1 => Lq G d M_52 (13, [some (.ref 11), some (.ref 7), some (.int x2), some (.int x3)], [.int v2], σ1) :=
  (aUn_eq (tkd G.1 G.2) tmi (aRun (tkd G.1 G.2) tmi tmt d) M_52 [] 1 (10, [some (.ref 11), some (.ref 7), some (.int x2), some (.int x3)], [.ref 11], σ)).trans rfl
set_option maxRecDepth 20000 in
theorem q_52_4907 (G : Nat × (Nat → Int32)) (d : Nat) (x2 : Int32) (x3 : Int32) (s0 : Int32) (σ : aH) : Lq G d M_52 (13, [some (.ref 11), some (.ref 7), some (.int x2), some (.int x3)], [.int s0], σ) = Lq G d M_52 (14, [some (.ref 11), some (.ref 7), some (.int x2), some (.int x3)], [.int x2, .int s0], σ) :=
  (aUn_eq (tkd G.1 G.2) tmi (aRun (tkd G.1 G.2) tmi tmt d) M_52 [] 1 (13, [some (.ref 11), some (.ref 7), some (.int x2), some (.int x3)], [.int s0], σ)).trans rfl
set_option maxRecDepth 20000 in
theorem q_52_4908 (G : Nat × (Nat → Int32)) (d : Nat) (x2 : Int32) (x3 : Int32) (s0 : Int32) (s1 : Int32) (σ : aH) : Lq G d M_52 (14, [some (.ref 11), some (.ref 7), some (.int x2), some (.int x3)], [.int s0, .int s1], σ) = if s1 < s0 then Lq G d M_52 (49, [some (.ref 11), some (.ref 7), some (.int x2), some (.int x3)], [], σ) else Lq G d M_52 (17, [some (.ref 11), some (.ref 7), some (.int x2), some (.int x3)], [], σ) :=
  (aUn_eq (tkd G.1 G.2) tmi (aRun (tkd G.1 G.2) tmi tmt d) M_52 [] 1 (14, [some (.ref 11), some (.ref 7), some (.int x2), some (.int x3)], [.int s0, .int s1], σ)).trans rfl
set_option maxRecDepth 20000 in
theorem q_52_4909 (G : Nat × (Nat → Int32)) (d : Nat) (x2 : Int32) (x3 : Int32) (σ : aH) : Lq G d M_52 (17, [some (.ref 11), some (.ref 7), some (.int x2), some (.int x3)], [], σ) = Lq G d M_52 (36, [some (.ref 11), some (.ref 7), some (.int x2), some (.int x3)], [.int ((σ.1 11 1) - (1 : Int32)), .ref 12, .ref 7], (aSI σ 11 1 ((σ.1 11 1) - (1 : Int32)))) :=
  (aUn_eq (tkd G.1 G.2) tmi (aRun (tkd G.1 G.2) tmi tmt d) M_52 [] 11 (17, [some (.ref 11), some (.ref 7), some (.int x2), some (.int x3)], [], σ)).trans rfl
set_option maxRecDepth 20000 in
theorem q_52_4910 (G : Nat × (Nat → Int32)) (d : Nat) (x2 : Int32) (x3 : Int32) (s0 : Int32) (σ : aH) : Lq G d M_52 (36, [some (.ref 11), some (.ref 7), some (.int x2), some (.int x3)], [.int s0, .ref 12, .ref 7], σ) = aCI (Rn G d 32 [.ref 12, .int s0] σ) fun v2 σ1 => Lq G d M_52 (39, [some (.ref 11), some (.ref 7), some (.int x2), some (.int x3)], [.int v2, .ref 7], σ1) :=
  (aUn_eq (tkd G.1 G.2) tmi (aRun (tkd G.1 G.2) tmi tmt d) M_52 [] 1 (36, [some (.ref 11), some (.ref 7), some (.int x2), some (.int x3)], [.int s0, .ref 12, .ref 7], σ)).trans rfl
set_option maxRecDepth 20000 in
theorem q_52_4911 (G : Nat × (Nat → Int32)) (d : Nat) (x2 : Int32) (x3 : Int32) (s0 : Int32) (σ : aH) : Lq G d M_52 (39, [some (.ref 11), some (.ref 7), some (.int x2), some (.int x3)], [.int s0, .ref 7], σ) = Lq G d M_52 (40, [some (.ref 11), some (.ref 7), some (.int x2), some (.int x3)], [.int (-s0), .ref 7], σ) :=
  (aUn_eq (tkd G.1 G.2) tmi (aRun (tkd G.1 G.2) tmi tmt d) M_52 [] 1 (39, [some (.ref 11), some (.ref 7), some (.int x2), some (.int x3)], [.int s0, .ref 7], σ)).trans rfl
set_option maxRecDepth 20000 in
theorem q_52_4912 (G : Nat × (Nat → Int32)) (d : Nat) (x2 : Int32) (x3 : Int32) (s0 : Int32) (σ : aH) : Lq G d M_52 (40, [some (.ref 11), some (.ref 7), some (.int x2), some (.int x3)], [.int s0, .ref 7], σ) = aCV (Rn G d 50 [.ref 7, .int s0] σ) fun σ1 => Lq G d M_52 (43, [some (.ref 11), some (.ref 7), some (.int x2), some (.int x3)], [], σ1) :=
  (aUn_eq (tkd G.1 G.2) tmi (aRun (tkd G.1 G.2) tmi tmt d) M_52 [] 1 (40, [some (.ref 11), some (.ref 7), some (.int x2), some (.int x3)], [.int s0, .ref 7], σ)).trans rfl
set_option maxRecDepth 20000 in
theorem q_52_4913 (G : Nat × (Nat → Int32)) (d : Nat) (x2 : Int32) (x3 : Int32) (σ : aH) : Lq G d M_52 (43, [some (.ref 11), some (.ref 7), some (.int x2), some (.int x3)], [], σ) = Lq G d M_52 (5, [some (.ref 11), some (.ref 7), some (.int x2), some (.int (x3 + (-1 : Int32)))], [], σ) :=
  (aUn_eq (tkd G.1 G.2) tmi (aRun (tkd G.1 G.2) tmi tmt d) M_52 [] 2 (43, [some (.ref 11), some (.ref 7), some (.int x2), some (.int x3)], [], σ)).trans rfl
set_option maxRecDepth 20000 in
theorem q_44_4914 (G : Nat × (Nat → Int32)) (d : Nat)  (σ : aH) : Lq G d M_44 (0, [some (.ref 11), some (.ref 1)], [], σ) = Lq G d M_44 (4, [some (.ref 11), some (.ref 1)], [.int (σ.1 11 4)], σ) :=
  (aUn_eq (tkd G.1 G.2) tmi (aRun (tkd G.1 G.2) tmi tmt d) M_44 [] 2 (0, [some (.ref 11), some (.ref 1)], [], σ)).trans rfl
set_option maxRecDepth 20000 in
theorem q_44_4915 (G : Nat × (Nat → Int32)) (d : Nat) (s0 : Int32) (σ : aH) : Lq G d M_44 (4, [some (.ref 11), some (.ref 1)], [.int s0], σ) = if s0 = 0 then Lq G d M_44 (7, [some (.ref 11), some (.ref 1)], [], σ) else Lq G d M_44 (27, [some (.ref 11), some (.ref 1)], [], σ) :=
  (aUn_eq (tkd G.1 G.2) tmi (aRun (tkd G.1 G.2) tmi tmt d) M_44 [] 1 (4, [some (.ref 11), some (.ref 1)], [.int s0], σ)).trans rfl
set_option maxRecDepth 20000 in
theorem q_44_4916 (G : Nat × (Nat → Int32)) (d : Nat)  (σ : aH) : Lq G d M_44 (7, [some (.ref 11), some (.ref 1)], [], σ) = Lq G d M_44 (11, [some (.ref 11), some (.ref 1)], [.int (σ.1 11 2)], σ) :=
  (aUn_eq (tkd G.1 G.2) tmi (aRun (tkd G.1 G.2) tmi tmt d) M_44 [] 2 (7, [some (.ref 11), some (.ref 1)], [], σ)).trans rfl
set_option maxRecDepth 20000 in
theorem q_44_4917 (G : Nat × (Nat → Int32)) (d : Nat) (s0 : Int32) (σ : aH) : Lq G d M_44 (11, [some (.ref 11), some (.ref 1)], [.int s0], σ) = if s0 = 0 then Lq G d M_44 (14, [some (.ref 11), some (.ref 1)], [], σ) else Lq G d M_44 (27, [some (.ref 11), some (.ref 1)], [], σ) :=
  (aUn_eq (tkd G.1 G.2) tmi (aRun (tkd G.1 G.2) tmi tmt d) M_44 [] 1 (11, [some (.ref 11), some (.ref 1)], [.int s0], σ)).trans rfl
set_option maxRecDepth 20000 in
theorem q_44_4918 (G : Nat × (Nat → Int32)) (d : Nat)  (σ : aH) : Lq G d M_44 (14, [some (.ref 11), some (.ref 1)], [], σ) = Lq G d M_44 (17, [some (.ref 11), some (.ref 1)], [.int (59 : Int32), .ref 1], σ) :=
  (aUn_eq (tkd G.1 G.2) tmi (aRun (tkd G.1 G.2) tmi tmt d) M_44 [] 2 (14, [some (.ref 11), some (.ref 1)], [], σ)).trans rfl
set_option maxRecDepth 20000 in
theorem q_44_4919 (G : Nat × (Nat → Int32)) (d : Nat) (s0 : Int32) (σ : aH) : Lq G d M_44 (17, [some (.ref 11), some (.ref 1)], [.int s0, .ref 1], σ) = aCI (Rn G d 45 [.ref 1, .int s0] σ) fun v2 σ1 => Lq G d M_44 (20, [some (.ref 11), some (.ref 1)], [.int v2], σ1) :=
  (aUn_eq (tkd G.1 G.2) tmi (aRun (tkd G.1 G.2) tmi tmt d) M_44 [] 1 (17, [some (.ref 11), some (.ref 1)], [.int s0, .ref 1], σ)).trans rfl
set_option maxRecDepth 20000 in
theorem q_44_4920 (G : Nat × (Nat → Int32)) (d : Nat) (s0 : Int32) (σ : aH) : Lq G d M_44 (20, [some (.ref 11), some (.ref 1)], [.int s0], σ) = if s0 = 0 then Lq G d M_44 (27, [some (.ref 11), some (.ref 1)], [], σ) else Lq G d M_44 (23, [some (.ref 11), some (.ref 1)], [], σ) :=
  (aUn_eq (tkd G.1 G.2) tmi (aRun (tkd G.1 G.2) tmi tmt d) M_44 [] 1 (20, [some (.ref 11), some (.ref 1)], [.int s0], σ)).trans rfl
set_option maxRecDepth 20000 in
theorem q_44_4921 (G : Nat × (Nat → Int32)) (d : Nat)  (σ : aH) : Lq G d M_44 (27, [some (.ref 11), some (.ref 1)], [], σ) = Lq G d M_44 (28, [some (.ref 11), some (.ref 1)], [.int (0 : Int32)], σ) :=
  (aUn_eq (tkd G.1 G.2) tmi (aRun (tkd G.1 G.2) tmi tmt d) M_44 [] 1 (27, [some (.ref 11), some (.ref 1)], [], σ)).trans rfl
set_option maxRecDepth 20000 in
theorem q_44_4922 (G : Nat × (Nat → Int32)) (d : Nat) (s0 : Int32) (σ : aH) : Lq G d M_44 (28, [some (.ref 11), some (.ref 1)], [.int s0], σ) = aNar .boolean (s0) (some (.inl (some (.int s0)), σ)) :=
  (aUn_eq (tkd G.1 G.2) tmi (aRun (tkd G.1 G.2) tmi tmt d) M_44 [] 1 (28, [some (.ref 11), some (.ref 1)], [.int s0], σ)).trans rfl
set_option maxRecDepth 20000 in
theorem q_44_4923 (G : Nat × (Nat → Int32)) (d : Nat)  (σ : aH) : Lq G d M_44 (23, [some (.ref 11), some (.ref 1)], [], σ) = Lq G d M_44 (28, [some (.ref 11), some (.ref 1)], [.int (1 : Int32)], σ) :=
  (aUn_eq (tkd G.1 G.2) tmi (aRun (tkd G.1 G.2) tmi tmt d) M_44 [] 2 (23, [some (.ref 11), some (.ref 1)], [], σ)).trans rfl
set_option maxRecDepth 20000 in
theorem q_51_4924 (G : Nat × (Nat → Int32)) (d : Nat)  (σ : aH) : Lq G d M_51 (0, [some (.ref 11), some (.ref 1), some (.ref 7), none, none, none, none], [], σ) = Lq G d M_51 (4, [some (.ref 11), some (.ref 1), some (.ref 7), none, none, none, none], [.int (σ.1 11 2)], σ) :=
  (aUn_eq (tkd G.1 G.2) tmi (aRun (tkd G.1 G.2) tmi tmt d) M_51 [] 2 (0, [some (.ref 11), some (.ref 1), some (.ref 7), none, none, none, none], [], σ)).trans rfl
set_option maxRecDepth 20000 in
theorem q_51_4925 (G : Nat × (Nat → Int32)) (d : Nat) (s0 : Int32) (σ : aH) : Lq G d M_51 (4, [some (.ref 11), some (.ref 1), some (.ref 7), none, none, none, none], [.int s0], σ) = if s0 ≤ 0 then Lq G d M_51 (43, [some (.ref 11), some (.ref 1), some (.ref 7), none, none, none, none], [], σ) else Lq G d M_51 (7, [some (.ref 11), some (.ref 1), some (.ref 7), none, none, none, none], [], σ) :=
  (aUn_eq (tkd G.1 G.2) tmi (aRun (tkd G.1 G.2) tmi tmt d) M_51 [] 1 (4, [some (.ref 11), some (.ref 1), some (.ref 7), none, none, none, none], [.int s0], σ)).trans rfl
set_option maxRecDepth 20000 in
theorem q_51_4926 (G : Nat × (Nat → Int32)) (d : Nat)  (σ : aH) : Lq G d M_51 (43, [some (.ref 11), some (.ref 1), some (.ref 7), none, none, none, none], [], σ) = Lq G d M_51 (46, [some (.ref 11), some (.ref 1), some (.ref 7), none, none, none, none], [.ref 112, .ref 1], σ) :=
  (aUn_eq (tkd G.1 G.2) tmi (aRun (tkd G.1 G.2) tmi tmt d) M_51 [] 2 (43, [some (.ref 11), some (.ref 1), some (.ref 7), none, none, none, none], [], σ)).trans rfl
set_option maxRecDepth 20000 in
theorem q_51_4927 (G : Nat × (Nat → Int32)) (d : Nat)  (σ : aH) : Lq G d M_51 (46, [some (.ref 11), some (.ref 1), some (.ref 7), none, none, none, none], [.ref 112, .ref 1], σ) = aCI (Rn G d 54 [.ref 1, .ref 112] σ) fun v2 σ1 => Lq G d M_51 (49, [some (.ref 11), some (.ref 1), some (.ref 7), none, none, none, none], [.int v2], σ1) :=
  (aUn_eq (tkd G.1 G.2) tmi (aRun (tkd G.1 G.2) tmi tmt d) M_51 [] 1 (46, [some (.ref 11), some (.ref 1), some (.ref 7), none, none, none, none], [.ref 112, .ref 1], σ)).trans rfl
set_option maxRecDepth 20000 in
theorem q_51_4928 (G : Nat × (Nat → Int32)) (d : Nat) (s0 : Int32) (σ : aH) : Lq G d M_51 (49, [some (.ref 11), some (.ref 1), some (.ref 7), none, none, none, none], [.int s0], σ) = Lq G d M_51 (53, [some (.ref 11), some (.ref 1), some (.ref 7), some (.int s0), none, none, none], [.ref 114, .ref 1], σ) :=
  (aUn_eq (tkd G.1 G.2) tmi (aRun (tkd G.1 G.2) tmi tmt d) M_51 [] 3 (49, [some (.ref 11), some (.ref 1), some (.ref 7), none, none, none, none], [.int s0], σ)).trans rfl
set_option maxRecDepth 20000 in
theorem q_51_4929 (G : Nat × (Nat → Int32)) (d : Nat) (x3 : Int32) (σ : aH) : Lq G d M_51 (53, [some (.ref 11), some (.ref 1), some (.ref 7), some (.int x3), none, none, none], [.ref 114, .ref 1], σ) = aCI (Rn G d 25 [.ref 1, .ref 114] σ) fun v2 σ1 => Lq G d M_51 (56, [some (.ref 11), some (.ref 1), some (.ref 7), some (.int x3), none, none, none], [.int v2], σ1) :=
  (aUn_eq (tkd G.1 G.2) tmi (aRun (tkd G.1 G.2) tmi tmt d) M_51 [] 1 (53, [some (.ref 11), some (.ref 1), some (.ref 7), some (.int x3), none, none, none], [.ref 114, .ref 1], σ)).trans rfl
set_option maxRecDepth 20000 in
theorem q_51_4930 (G : Nat × (Nat → Int32)) (d : Nat) (x3 : Int32) (s0 : Int32) (σ : aH) : Lq G d M_51 (56, [some (.ref 11), some (.ref 1), some (.ref 7), some (.int x3), none, none, none], [.int s0], σ) = Lq G d M_51 (59, [some (.ref 11), some (.ref 1), some (.ref 7), some (.int x3), some (.int s0), none, none], [.int x3], σ) :=
  (aUn_eq (tkd G.1 G.2) tmi (aRun (tkd G.1 G.2) tmi tmt d) M_51 [] 2 (56, [some (.ref 11), some (.ref 1), some (.ref 7), some (.int x3), none, none, none], [.int s0], σ)).trans rfl
set_option maxRecDepth 20000 in
theorem q_51_4931 (G : Nat × (Nat → Int32)) (d : Nat) (x3 : Int32) (x4 : Int32) (s0 : Int32) (σ : aH) : Lq G d M_51 (59, [some (.ref 11), some (.ref 1), some (.ref 7), some (.int x3), some (.int x4), none, none], [.int s0], σ) = if 0 ≤ s0 then Lq G d M_51 (73, [some (.ref 11), some (.ref 1), some (.ref 7), some (.int x3), some (.int x4), none, none], [], σ) else Lq G d M_51 (62, [some (.ref 11), some (.ref 1), some (.ref 7), some (.int x3), some (.int x4), none, none], [], σ) :=
  (aUn_eq (tkd G.1 G.2) tmi (aRun (tkd G.1 G.2) tmi tmt d) M_51 [] 1 (59, [some (.ref 11), some (.ref 1), some (.ref 7), some (.int x3), some (.int x4), none, none], [.int s0], σ)).trans rfl
set_option maxRecDepth 20000 in
theorem q_51_4932 (G : Nat × (Nat → Int32)) (d : Nat) (x3 : Int32) (x4 : Int32) (σ : aH) : Lq G d M_51 (73, [some (.ref 11), some (.ref 1), some (.ref 7), some (.int x3), some (.int x4), none, none], [], σ) = Lq G d M_51 (74, [some (.ref 11), some (.ref 1), some (.ref 7), some (.int x3), some (.int x4), none, none], [.int x3], σ) :=
  (aUn_eq (tkd G.1 G.2) tmi (aRun (tkd G.1 G.2) tmi tmt d) M_51 [] 1 (73, [some (.ref 11), some (.ref 1), some (.ref 7), some (.int x3), some (.int x4), none, none], [], σ)).trans rfl
set_option maxRecDepth 20000 in
theorem q_51_4933 (G : Nat × (Nat → Int32)) (d : Nat) (x3 : Int32) (x4 : Int32) (s0 : Int32) (σ : aH) : Lq G d M_51 (74, [some (.ref 11), some (.ref 1), some (.ref 7), some (.int x3), some (.int x4), none, none], [.int s0], σ) = if s0 < 0 then Lq G d M_51 (83, [some (.ref 11), some (.ref 1), some (.ref 7), some (.int x3), some (.int x4), none, none], [], σ) else Lq G d M_51 (77, [some (.ref 11), some (.ref 1), some (.ref 7), some (.int x3), some (.int x4), none, none], [], σ) :=
  (aUn_eq (tkd G.1 G.2) tmi (aRun (tkd G.1 G.2) tmi tmt d) M_51 [] 1 (74, [some (.ref 11), some (.ref 1), some (.ref 7), some (.int x3), some (.int x4), none, none], [.int s0], σ)).trans rfl
set_option maxRecDepth 20000 in
theorem q_51_4934 (G : Nat × (Nat → Int32)) (d : Nat) (x3 : Int32) (x4 : Int32) (σ : aH) : Lq G d M_51 (83, [some (.ref 11), some (.ref 1), some (.ref 7), some (.int x3), some (.int x4), none, none], [], σ) = Lq G d M_51 (94, [some (.ref 11), some (.ref 1), some (.ref 7), some (.int x3), some (.int x4), some (.int ((1 : Int32) + x4)), none], [.int ((1 : Int32) + x4), .ref 67], σ) :=
  (aUn_eq (tkd G.1 G.2) tmi (aRun (tkd G.1 G.2) tmi tmt d) M_51 [] 6 (83, [some (.ref 11), some (.ref 1), some (.ref 7), some (.int x3), some (.int x4), none, none], [], σ)).trans rfl
set_option maxRecDepth 20000 in
theorem q_51_4935 (G : Nat × (Nat → Int32)) (d : Nat) (x3 : Int32) (x4 : Int32) (x5 : Int32) (s0 : Int32) (σ : aH) : Lq G d M_51 (94, [some (.ref 11), some (.ref 1), some (.ref 7), some (.int x3), some (.int x4), some (.int x5), none], [.int s0, .ref 67], σ) = aCI (Rn G d 32 [.ref 67, .int s0] σ) fun v2 σ1 => Lq G d M_51 (97, [some (.ref 11), some (.ref 1), some (.ref 7), some (.int x3), some (.int x4), some (.int x5), none], [.int v2], σ1) :=
  (aUn_eq (tkd G.1 G.2) tmi (aRun (tkd G.1 G.2) tmi tmt d) M_51 [] 1 (94, [some (.ref 11), some (.ref 1), some (.ref 7), some (.int x3), some (.int x4), some (.int x5), none], [.int s0, .ref 67], σ)).trans rfl
set_option maxRecDepth 20000 in
theorem q_51_4936 (G : Nat × (Nat → Int32)) (d : Nat) (x3 : Int32) (x4 : Int32) (x5 : Int32) (s0 : Int32) (σ : aH) : Lq G d M_51 (97, [some (.ref 11), some (.ref 1), some (.ref 7), some (.int x3), some (.int x4), some (.int x5), none], [.int s0], σ) = Lq G d M_51 (104, [some (.ref 11), some (.ref 1), some (.ref 7), some (.int x3), some (.int x4), some (.int x5), some (.int s0)], [.int (4 : Int32), .int s0, .ref 7, .ref 11], σ) :=
  (aUn_eq (tkd G.1 G.2) tmi (aRun (tkd G.1 G.2) tmi tmt d) M_51 [] 5 (97, [some (.ref 11), some (.ref 1), some (.ref 7), some (.int x3), some (.int x4), some (.int x5), none], [.int s0], σ)).trans rfl
set_option maxRecDepth 20000 in
theorem q_51_4937 (G : Nat × (Nat → Int32)) (d : Nat) (x3 : Int32) (x4 : Int32) (x5 : Int32) (x6 : Int32) (s0 : Int32) (s1 : Int32) (σ : aH) : Lq G d M_51 (104, [some (.ref 11), some (.ref 1), some (.ref 7), some (.int x3), some (.int x4), some (.int x5), some (.int x6)], [.int s0, .int s1, .ref 7, .ref 11], σ) = if s1 = s0 then Lq G d M_51 (107, [some (.ref 11), some (.ref 1), some (.ref 7), some (.int x3), some (.int x4), some (.int x5), some (.int x6)], [.ref 7, .ref 11], σ) else Lq G d M_51 (111, [some (.ref 11), some (.ref 1), some (.ref 7), some (.int x3), some (.int x4), some (.int x5), some (.int x6)], [.ref 7, .ref 11], σ) :=
  (aUn_eq (tkd G.1 G.2) tmi (aRun (tkd G.1 G.2) tmi tmt d) M_51 [] 1 (104, [some (.ref 11), some (.ref 1), some (.ref 7), some (.int x3), some (.int x4), some (.int x5), some (.int x6)], [.int s0, .int s1, .ref 7, .ref 11], σ)).trans rfl
set_option maxRecDepth 20000 in
theorem q_51_4938 (G : Nat × (Nat → Int32)) (d : Nat) (x3 : Int32) (x4 : Int32) (x5 : Int32) (x6 : Int32) (σ : aH) : Lq G d M_51 (107, [some (.ref 11), some (.ref 1), some (.ref 7), some (.int x3), some (.int x4), some (.int x5), some (.int x6)], [.ref 7, .ref 11], σ) = Lq G d M_51 (113, [some (.ref 11), some (.ref 1), some (.ref 7), some (.int x3), some (.int x4), some (.int x5), some (.int x6)], [.int (5 : Int32), .ref 7, .ref 11], σ) :=
  (aUn_eq (tkd G.1 G.2) tmi (aRun (tkd G.1 G.2) tmi tmt d) M_51 [] 2 (107, [some (.ref 11), some (.ref 1), some (.ref 7), some (.int x3), some (.int x4), some (.int x5), some (.int x6)], [.ref 7, .ref 11], σ)).trans rfl
set_option maxRecDepth 20000 in
theorem q_51_4939 (G : Nat × (Nat → Int32)) (d : Nat) (x3 : Int32) (x4 : Int32) (x5 : Int32) (x6 : Int32) (s0 : Int32) (σ : aH) : Lq G d M_51 (113, [some (.ref 11), some (.ref 1), some (.ref 7), some (.int x3), some (.int x4), some (.int x5), some (.int x6)], [.int s0, .ref 7, .ref 11], σ) = aCV (Rn G d 52 [.ref 11, .ref 7, .int s0] σ) fun σ1 => Lq G d M_51 (116, [some (.ref 11), some (.ref 1), some (.ref 7), some (.int x3), some (.int x4), some (.int x5), some (.int x6)], [], σ1) :=
  (aUn_eq (tkd G.1 G.2) tmi (aRun (tkd G.1 G.2) tmi tmt d) M_51 [] 1 (113, [some (.ref 11), some (.ref 1), some (.ref 7), some (.int x3), some (.int x4), some (.int x5), some (.int x6)], [.int s0, .ref 7, .ref 11], σ)).trans rfl
set_option maxRecDepth 20000 in
theorem q_51_4940 (G : Nat × (Nat → Int32)) (d : Nat) (x3 : Int32) (x4 : Int32) (x5 : Int32) (x6 : Int32) (σ : aH) : Lq G d M_51 (116, [some (.ref 11), some (.ref 1), some (.ref 7), some (.int x3), some (.int x4), some (.int x5), some (.int x6)], [], σ) = Lq G d M_51 (119, [some (.ref 11), some (.ref 1), some (.ref 7), some (.int x3), some (.int x4), some (.int x5), some (.int x6)], [.int (4 : Int32), .int x6], σ) :=
  (aUn_eq (tkd G.1 G.2) tmi (aRun (tkd G.1 G.2) tmi tmt d) M_51 [] 2 (116, [some (.ref 11), some (.ref 1), some (.ref 7), some (.int x3), some (.int x4), some (.int x5), some (.int x6)], [], σ)).trans rfl
set_option maxRecDepth 20000 in
theorem q_51_4941 (G : Nat × (Nat → Int32)) (d : Nat) (x3 : Int32) (x4 : Int32) (x5 : Int32) (x6 : Int32) (s0 : Int32) (s1 : Int32) (σ : aH) : Lq G d M_51 (119, [some (.ref 11), some (.ref 1), some (.ref 7), some (.int x3), some (.int x4), some (.int x5), some (.int x6)], [.int s0, .int s1], σ) = if s1 = s0 then Lq G d M_51 (122, [some (.ref 11), some (.ref 1), some (.ref 7), some (.int x3), some (.int x4), some (.int x5), some (.int x6)], [], σ) else Lq G d M_51 (135, [some (.ref 11), some (.ref 1), some (.ref 7), some (.int x3), some (.int x4), some (.int x5), some (.int x6)], [], σ) :=
  (aUn_eq (tkd G.1 G.2) tmi (aRun (tkd G.1 G.2) tmi tmt d) M_51 [] 1 (119, [some (.ref 11), some (.ref 1), some (.ref 7), some (.int x3), some (.int x4), some (.int x5), some (.int x6)], [.int s0, .int s1], σ)).trans rfl
set_option maxRecDepth 20000 in
theorem q_51_4942 (G : Nat × (Nat → Int32)) (d : Nat) (x3 : Int32) (x4 : Int32) (x5 : Int32) (x6 : Int32) (σ : aH) : Lq G d M_51 (122, [some (.ref 11), some (.ref 1), some (.ref 7), some (.int x3), some (.int x4), some (.int x5), some (.int x6)], [], σ) = Lq G d M_51 (123, [some (.ref 11), some (.ref 1), some (.ref 7), some (.int x3), some (.int x4), some (.int x5), some (.int x6)], [.ref 11], σ) :=
  (aUn_eq (tkd G.1 G.2) tmi (aRun (tkd G.1 G.2) tmi tmt d) M_51 [] 1 (122, [some (.ref 11), some (.ref 1), some (.ref 7), some (.int x3), some (.int x4), some (.int x5), some (.int x6)], [], σ)).trans rfl
set_option maxRecDepth 20000 in
theorem q_51_4943 (G : Nat × (Nat → Int32)) (d : Nat) (x3 : Int32) (x4 : Int32) (x5 : Int32) (x6 : Int32) (σ : aH) : Lq G d M_51 (123, [some (.ref 11), some (.ref 1), some (.ref 7), some (.int x3), some (.int x4), some (.int x5), some (.int x6)], [.ref 11], σ) = aCI (Rn G d 53 [.ref 11] σ) fun v2 σ1 => Lq G d M_51 (126, [some (.ref 11), some (.ref 1), some (.ref 7), some (.int x3), some (.int x4), some (.int x5), some (.int x6)], [.int v2], σ1) :=
  (aUn_eq (tkd G.1 G.2) tmi (aRun (tkd G.1 G.2) tmi tmt d) M_51 [] 1 (123, [some (.ref 11), some (.ref 1), some (.ref 7), some (.int x3), some (.int x4), some (.int x5), some (.int x6)], [.ref 11], σ)).trans rfl
set_option maxRecDepth 20000 in
theorem q_51_4944 (G : Nat × (Nat → Int32)) (d : Nat) (x3 : Int32) (x4 : Int32) (x5 : Int32) (x6 : Int32) (s0 : Int32) (σ : aH) : Lq G d M_51 (126, [some (.ref 11), some (.ref 1), some (.ref 7), some (.int x3), some (.int x4), some (.int x5), some (.int x6)], [.int s0], σ) = Lq G d M_51 (127, [some (.ref 11), some (.ref 1), some (.ref 7), some (.int x3), some (.int x4), some (.int x5), some (.int x6)], [.int (4 : Int32), .int s0], σ) :=
  (aUn_eq (tkd G.1 G.2) tmi (aRun (tkd G.1 G.2) tmi tmt d) M_51 [] 1 (126, [some (.ref 11), some (.ref 1), some (.ref 7), some (.int x3), some (.int x4), some (.int x5), some (.int x6)], [.int s0], σ)).trans rfl
set_option maxRecDepth 20000 in
theorem q_51_4945 (G : Nat × (Nat → Int32)) (d : Nat) (x3 : Int32) (x4 : Int32) (x5 : Int32) (x6 : Int32) (s0 : Int32) (s1 : Int32) (σ : aH) : Lq G d M_51 (127, [some (.ref 11), some (.ref 1), some (.ref 7), some (.int x3), some (.int x4), some (.int x5), some (.int x6)], [.int s0, .int s1], σ) = if s1 = s0 then Lq G d M_51 (130, [some (.ref 11), some (.ref 1), some (.ref 7), some (.int x3), some (.int x4), some (.int x5), some (.int x6)], [], σ) else Lq G d M_51 (135, [some (.ref 11), some (.ref 1), some (.ref 7), some (.int x3), some (.int x4), some (.int x5), some (.int x6)], [], σ) :=
  (aUn_eq (tkd G.1 G.2) tmi (aRun (tkd G.1 G.2) tmi tmt d) M_51 [] 1 (127, [some (.ref 11), some (.ref 1), some (.ref 7), some (.int x3), some (.int x4), some (.int x5), some (.int x6)], [.int s0, .int s1], σ)).trans rfl
set_option maxRecDepth 20000 in
theorem q_51_4946 (G : Nat × (Nat → Int32)) (d : Nat) (x3 : Int32) (x4 : Int32) (x5 : Int32) (x6 : Int32) (σ : aH) : Lq G d M_51 (130, [some (.ref 11), some (.ref 1), some (.ref 7), some (.int x3), some (.int x4), some (.int x5), some (.int x6)], [], σ) = Lq G d M_51 (132, [some (.ref 11), some (.ref 1), some (.ref 7), some (.int x3), some (.int x4), some (.int x5), some (.int x6)], [.int (1 : Int32), .ref 1], σ) :=
  (aUn_eq (tkd G.1 G.2) tmi (aRun (tkd G.1 G.2) tmi tmt d) M_51 [] 2 (130, [some (.ref 11), some (.ref 1), some (.ref 7), some (.int x3), some (.int x4), some (.int x5), some (.int x6)], [], σ)).trans rfl
set_option maxRecDepth 20000 in
theorem q_51_4947 (G : Nat × (Nat → Int32)) (d : Nat) (x3 : Int32) (x4 : Int32) (x5 : Int32) (x6 : Int32) (s0 : Int32) (σ : aH) : Lq G d M_51 (132, [some (.ref 11), some (.ref 1), some (.ref 7), some (.int x3), some (.int x4), some (.int x5), some (.int x6)], [.int s0, .ref 1], σ) = aCV (Rn G d 30 [.ref 1, .int s0] σ) fun σ1 => Lq G d M_51 (135, [some (.ref 11), some (.ref 1), some (.ref 7), some (.int x3), some (.int x4), some (.int x5), some (.int x6)], [], σ1) :=
  (aUn_eq (tkd G.1 G.2) tmi (aRun (tkd G.1 G.2) tmi tmt d) M_51 [] 1 (132, [some (.ref 11), some (.ref 1), some (.ref 7), some (.int x3), some (.int x4), some (.int x5), some (.int x6)], [.int s0, .ref 1], σ)).trans rfl
set_option maxRecDepth 20000 in
theorem q_51_4948 (G : Nat × (Nat → Int32)) (d : Nat) (x3 : Int32) (x4 : Int32) (x5 : Int32) (x6 : Int32) (σ : aH) : Lq G d M_51 (135, [some (.ref 11), some (.ref 1), some (.ref 7), some (.int x3), some (.int x4), some (.int x5), some (.int x6)], [], σ) = Lq G d M_51 (138, [some (.ref 11), some (.ref 1), some (.ref 7), some (.int x3), some (.int x4), some (.int x5), some (.int x6)], [.int x5, .ref 11], σ) :=
  (aUn_eq (tkd G.1 G.2) tmi (aRun (tkd G.1 G.2) tmi tmt d) M_51 [] 2 (135, [some (.ref 11), some (.ref 1), some (.ref 7), some (.int x3), some (.int x4), some (.int x5), some (.int x6)], [], σ)).trans rfl
set_option maxRecDepth 20000 in
theorem q_51_4949 (G : Nat × (Nat → Int32)) (d : Nat) (x3 : Int32) (x4 : Int32) (x5 : Int32) (x6 : Int32) (s0 : Int32) (σ : aH) : Lq G d M_51 (138, [some (.ref 11), some (.ref 1), some (.ref 7), some (.int x3), some (.int x4), some (.int x5), some (.int x6)], [.int s0, .ref 11], σ) = aCV (Rn G d 47 [.ref 11, .int s0] σ) fun σ1 => Lq G d M_51 (141, [some (.ref 11), some (.ref 1), some (.ref 7), some (.int x3), some (.int x4), some (.int x5), some (.int x6)], [], σ1) :=
  (aUn_eq (tkd G.1 G.2) tmi (aRun (tkd G.1 G.2) tmi tmt d) M_51 [] 1 (138, [some (.ref 11), some (.ref 1), some (.ref 7), some (.int x3), some (.int x4), some (.int x5), some (.int x6)], [.int s0, .ref 11], σ)).trans rfl
set_option maxRecDepth 20000 in
theorem q_51_4950 (G : Nat × (Nat → Int32)) (d : Nat) (x3 : Int32) (x4 : Int32) (x5 : Int32) (x6 : Int32) (σ : aH) : Lq G d M_51 (141, [some (.ref 11), some (.ref 1), some (.ref 7), some (.int x3), some (.int x4), some (.int x5), some (.int x6)], [], σ) = Lq G d M_51 (148, [some (.ref 11), some (.ref 1), some (.ref 7), some (.int x3), some (.int x4), some (.int x5), some (.int x6)], [.int x3, .ref 11], (aSI σ 11 4 (1 : Int32))) :=
  (aUn_eq (tkd G.1 G.2) tmi (aRun (tkd G.1 G.2) tmi tmt d) M_51 [] 5 (141, [some (.ref 11), some (.ref 1), some (.ref 7), some (.int x3), some (.int x4), some (.int x5), some (.int x6)], [], σ)).trans rfl
set_option maxRecDepth 20000 in
theorem q_51_4951 (G : Nat × (Nat → Int32)) (d : Nat) (x3 : Int32) (x4 : Int32) (x5 : Int32) (x6 : Int32) (s0 : Int32) (σ : aH) : Lq G d M_51 (148, [some (.ref 11), some (.ref 1), some (.ref 7), some (.int x3), some (.int x4), some (.int x5), some (.int x6)], [.int s0, .ref 11], σ) = if 0 ≤ s0 then Lq G d M_51 (155, [some (.ref 11), some (.ref 1), some (.ref 7), some (.int x3), some (.int x4), some (.int x5), some (.int x6)], [.ref 11], σ) else Lq G d M_51 (151, [some (.ref 11), some (.ref 1), some (.ref 7), some (.int x3), some (.int x4), some (.int x5), some (.int x6)], [.ref 11], σ) :=
  (aUn_eq (tkd G.1 G.2) tmi (aRun (tkd G.1 G.2) tmi tmt d) M_51 [] 1 (148, [some (.ref 11), some (.ref 1), some (.ref 7), some (.int x3), some (.int x4), some (.int x5), some (.int x6)], [.int s0, .ref 11], σ)).trans rfl
set_option maxRecDepth 20000 in
theorem q_51_4952 (G : Nat × (Nat → Int32)) (d : Nat) (x3 : Int32) (x4 : Int32) (x5 : Int32) (x6 : Int32) (σ : aH) : Lq G d M_51 (155, [some (.ref 11), some (.ref 1), some (.ref 7), some (.int x3), some (.int x4), some (.int x5), some (.int x6)], [.ref 11], σ) = Lq G d M_51 (159, [some (.ref 11), some (.ref 1), some (.ref 7), some (.int x3), some (.int x4), some (.int x5), some (.int x6)], [], (aSI σ 11 5 (0 : Int32))) :=
  (aUn_eq (tkd G.1 G.2) tmi (aRun (tkd G.1 G.2) tmi tmt d) M_51 [] 2 (155, [some (.ref 11), some (.ref 1), some (.ref 7), some (.int x3), some (.int x4), some (.int x5), some (.int x6)], [.ref 11], σ)).trans rfl
set_option maxRecDepth 20000 in
theorem q_51_4953 (G : Nat × (Nat → Int32)) (d : Nat) (x3 : Int32) (x4 : Int32) (x5 : Int32) (x6 : Int32) (σ : aH) : Lq G d M_51 (159, [some (.ref 11), some (.ref 1), some (.ref 7), some (.int x3), some (.int x4), some (.int x5), some (.int x6)], [], σ) = some (.inl none, σ) :=
  (aUn_eq (tkd G.1 G.2) tmi (aRun (tkd G.1 G.2) tmi tmt d) M_51 [] 1 (159, [some (.ref 11), some (.ref 1), some (.ref 7), some (.int x3), some (.int x4), some (.int x5), some (.int x6)], [], σ)).trans rfl
set_option maxRecDepth 20000 in
theorem q_51_4954 (G : Nat × (Nat → Int32)) (d : Nat) (x3 : Int32) (x4 : Int32) (x5 : Int32) (x6 : Int32) (σ : aH) : Lq G d M_51 (151, [some (.ref 11), some (.ref 1), some (.ref 7), some (.int x3), some (.int x4), some (.int x5), some (.int x6)], [.ref 11], σ) = Lq G d M_51 (159, [some (.ref 11), some (.ref 1), some (.ref 7), some (.int x3), some (.int x4), some (.int x5), some (.int x6)], [], (aSI σ 11 5 (1 : Int32))) :=
  (aUn_eq (tkd G.1 G.2) tmi (aRun (tkd G.1 G.2) tmi tmt d) M_51 [] 3 (151, [some (.ref 11), some (.ref 1), some (.ref 7), some (.int x3), some (.int x4), some (.int x5), some (.int x6)], [.ref 11], σ)).trans rfl
set_option maxRecDepth 20000 in
theorem q_51_4955 (G : Nat × (Nat → Int32)) (d : Nat) (x3 : Int32) (x4 : Int32) (x5 : Int32) (x6 : Int32) (σ : aH) : Lq G d M_51 (111, [some (.ref 11), some (.ref 1), some (.ref 7), some (.int x3), some (.int x4), some (.int x5), some (.int x6)], [.ref 7, .ref 11], σ) = Lq G d M_51 (113, [some (.ref 11), some (.ref 1), some (.ref 7), some (.int x3), some (.int x4), some (.int x5), some (.int x6)], [.int x6, .ref 7, .ref 11], σ) :=
  (aUn_eq (tkd G.1 G.2) tmi (aRun (tkd G.1 G.2) tmi tmt d) M_51 [] 1 (111, [some (.ref 11), some (.ref 1), some (.ref 7), some (.int x3), some (.int x4), some (.int x5), some (.int x6)], [.ref 7, .ref 11], σ)).trans rfl
set_option maxRecDepth 20000 in
theorem q_51_4956 (G : Nat × (Nat → Int32)) (d : Nat) (x3 : Int32) (x4 : Int32) (σ : aH) : Lq G d M_51 (77, [some (.ref 11), some (.ref 1), some (.ref 7), some (.int x3), some (.int x4), none, none], [], σ) = Lq G d M_51 (94, [some (.ref 11), some (.ref 1), some (.ref 7), some (.int x3), some (.int x4), some (.int ((4 : Int32) + x3)), none], [.int ((4 : Int32) + x3), .ref 67], σ) :=
  (aUn_eq (tkd G.1 G.2) tmi (aRun (tkd G.1 G.2) tmi tmt d) M_51 [] 7 (77, [some (.ref 11), some (.ref 1), some (.ref 7), some (.int x3), some (.int x4), none, none], [], σ)).trans rfl
set_option maxRecDepth 20000 in
theorem q_51_4957 (G : Nat × (Nat → Int32)) (d : Nat) (x3 : Int32) (x4 : Int32) (σ : aH) : Lq G d M_51 (62, [some (.ref 11), some (.ref 1), some (.ref 7), some (.int x3), some (.int x4), none, none], [], σ) = Lq G d M_51 (64, [some (.ref 11), some (.ref 1), some (.ref 7), some (.int x3), some (.int x4), none, none], [.int x4], σ) :=
  (aUn_eq (tkd G.1 G.2) tmi (aRun (tkd G.1 G.2) tmi tmt d) M_51 [] 1 (62, [some (.ref 11), some (.ref 1), some (.ref 7), some (.int x3), some (.int x4), none, none], [], σ)).trans rfl
set_option maxRecDepth 20000 in
theorem q_51_4958 (G : Nat × (Nat → Int32)) (d : Nat) (x3 : Int32) (x4 : Int32) (s0 : Int32) (σ : aH) : Lq G d M_51 (64, [some (.ref 11), some (.ref 1), some (.ref 7), some (.int x3), some (.int x4), none, none], [.int s0], σ) = if 0 ≤ s0 then Lq G d M_51 (73, [some (.ref 11), some (.ref 1), some (.ref 7), some (.int x3), some (.int x4), none, none], [], σ) else Lq G d M_51 (67, [some (.ref 11), some (.ref 1), some (.ref 7), some (.int x3), some (.int x4), none, none], [], σ) :=
  (aUn_eq (tkd G.1 G.2) tmi (aRun (tkd G.1 G.2) tmi tmt d) M_51 [] 1 (64, [some (.ref 11), some (.ref 1), some (.ref 7), some (.int x3), some (.int x4), none, none], [.int s0], σ)).trans rfl
set_option maxRecDepth 20000 in
theorem q_51_4959 (G : Nat × (Nat → Int32)) (d : Nat) (x3 : Int32) (x4 : Int32) (σ : aH) : Lq G d M_51 (67, [some (.ref 11), some (.ref 1), some (.ref 7), some (.int x3), some (.int x4), none, none], [], σ) = Lq G d M_51 (69, [some (.ref 11), some (.ref 1), some (.ref 7), some (.int x3), some (.int x4), none, none], [.int (1 : Int32), .ref 1], σ) :=
  (aUn_eq (tkd G.1 G.2) tmi (aRun (tkd G.1 G.2) tmi tmt d) M_51 [] 2 (67, [some (.ref 11), some (.ref 1), some (.ref 7), some (.int x3), some (.int x4), none, none], [], σ)).trans rfl
set_option maxRecDepth 20000 in
theorem q_51_4960 (G : Nat × (Nat → Int32)) (d : Nat) (x3 : Int32) (x4 : Int32) (s0 : Int32) (σ : aH) : Lq G d M_51 (69, [some (.ref 11), some (.ref 1), some (.ref 7), some (.int x3), some (.int x4), none, none], [.int s0, .ref 1], σ) = aCV (Rn G d 30 [.ref 1, .int s0] σ) fun σ1 => Lq G d M_51 (72, [some (.ref 11), some (.ref 1), some (.ref 7), some (.int x3), some (.int x4), none, none], [], σ1) :=
  (aUn_eq (tkd G.1 G.2) tmi (aRun (tkd G.1 G.2) tmi tmt d) M_51 [] 1 (69, [some (.ref 11), some (.ref 1), some (.ref 7), some (.int x3), some (.int x4), none, none], [.int s0, .ref 1], σ)).trans rfl
set_option maxRecDepth 20000 in
theorem q_51_4961 (G : Nat × (Nat → Int32)) (d : Nat) (x3 : Int32) (x4 : Int32) (σ : aH) : Lq G d M_51 (72, [some (.ref 11), some (.ref 1), some (.ref 7), some (.int x3), some (.int x4), none, none], [], σ) = some (.inl none, σ) :=
  (aUn_eq (tkd G.1 G.2) tmi (aRun (tkd G.1 G.2) tmi tmt d) M_51 [] 1 (72, [some (.ref 11), some (.ref 1), some (.ref 7), some (.int x3), some (.int x4), none, none], [], σ)).trans rfl
set_option maxRecDepth 20000 in
theorem q_51_4962 (G : Nat × (Nat → Int32)) (d : Nat)  (σ : aH) : Lq G d M_51 (7, [some (.ref 11), some (.ref 1), some (.ref 7), none, none, none, none], [], σ) = Lq G d M_51 (10, [some (.ref 11), some (.ref 1), some (.ref 7), none, none, none, none], [.int (41 : Int32), .ref 1], σ) :=
  (aUn_eq (tkd G.1 G.2) tmi (aRun (tkd G.1 G.2) tmi tmt d) M_51 [] 2 (7, [some (.ref 11), some (.ref 1), some (.ref 7), none, none, none, none], [], σ)).trans rfl
set_option maxRecDepth 20000 in
theorem q_51_4963 (G : Nat × (Nat → Int32)) (d : Nat) (s0 : Int32) (σ : aH) : Lq G d M_51 (10, [some (.ref 11), some (.ref 1), some (.ref 7), none, none, none, none], [.int s0, .ref 1], σ) = aCI (Rn G d 45 [.ref 1, .int s0] σ) fun v2 σ1 => Lq G d M_51 (13, [some (.ref 11), some (.ref 1), some (.ref 7), none, none, none, none], [.int v2], σ1) :=
  (aUn_eq (tkd G.1 G.2) tmi (aRun (tkd G.1 G.2) tmi tmt d) M_51 [] 1 (10, [some (.ref 11), some (.ref 1), some (.ref 7), none, none, none, none], [.int s0, .ref 1], σ)).trans rfl
set_option maxRecDepth 20000 in
theorem q_51_4964 (G : Nat × (Nat → Int32)) (d : Nat) (s0 : Int32) (σ : aH) : Lq G d M_51 (13, [some (.ref 11), some (.ref 1), some (.ref 7), none, none, none, none], [.int s0], σ) = if s0 = 0 then Lq G d M_51 (43, [some (.ref 11), some (.ref 1), some (.ref 7), none, none, none, none], [], σ) else Lq G d M_51 (16, [some (.ref 11), some (.ref 1), some (.ref 7), none, none, none, none], [], σ) :=
  (aUn_eq (tkd G.1 G.2) tmi (aRun (tkd G.1 G.2) tmi tmt d) M_51 [] 1 (13, [some (.ref 11), some (.ref 1), some (.ref 7), none, none, none, none], [.int s0], σ)).trans rfl
set_option maxRecDepth 20000 in
theorem q_51_4965 (G : Nat × (Nat → Int32)) (d : Nat)  (σ : aH) : Lq G d M_51 (16, [some (.ref 11), some (.ref 1), some (.ref 7), none, none, none, none], [], σ) = Lq G d M_51 (19, [some (.ref 11), some (.ref 1), some (.ref 7), none, none, none, none], [.int (1 : Int32), .ref 7, .ref 11], σ) :=
  (aUn_eq (tkd G.1 G.2) tmi (aRun (tkd G.1 G.2) tmi tmt d) M_51 [] 3 (16, [some (.ref 11), some (.ref 1), some (.ref 7), none, none, none, none], [], σ)).trans rfl
set_option maxRecDepth 20000 in
theorem q_51_4966 (G : Nat × (Nat → Int32)) (d : Nat) (s0 : Int32) (σ : aH) : Lq G d M_51 (19, [some (.ref 11), some (.ref 1), some (.ref 7), none, none, none, none], [.int s0, .ref 7, .ref 11], σ) = aCV (Rn G d 52 [.ref 11, .ref 7, .int s0] σ) fun σ1 => Lq G d M_51 (22, [some (.ref 11), some (.ref 1), some (.ref 7), none, none, none, none], [], σ1) :=
  (aUn_eq (tkd G.1 G.2) tmi (aRun (tkd G.1 G.2) tmi tmt d) M_51 [] 1 (19, [some (.ref 11), some (.ref 1), some (.ref 7), none, none, none, none], [.int s0, .ref 7, .ref 11], σ)).trans rfl
set_option maxRecDepth 20000 in
theorem q_51_4967 (G : Nat × (Nat → Int32)) (d : Nat)  (σ : aH) : Lq G d M_51 (22, [some (.ref 11), some (.ref 1), some (.ref 7), none, none, none, none], [], σ) = Lq G d M_51 (42, [some (.ref 11), some (.ref 1), some (.ref 7), none, none, none, none], [], (aSI (aSI σ 11 1 ((σ.1 11 1) - (1 : Int32))) 11 2 ((σ.1 11 2) - (1 : Int32)))) :=
  (aUn_eq (tkd G.1 G.2) tmi (aRun (tkd G.1 G.2) tmi tmt d) M_51 [] 12 (22, [some (.ref 11), some (.ref 1), some (.ref 7), none, none, none, none], [], σ)).trans rfl
set_option maxRecDepth 20000 in
theorem q_51_4968 (G : Nat × (Nat → Int32)) (d : Nat)  (σ : aH) : Lq G d M_51 (42, [some (.ref 11), some (.ref 1), some (.ref 7), none, none, none, none], [], σ) = some (.inl none, σ) :=
  (aUn_eq (tkd G.1 G.2) tmi (aRun (tkd G.1 G.2) tmi tmt d) M_51 [] 1 (42, [some (.ref 11), some (.ref 1), some (.ref 7), none, none, none, none], [], σ)).trans rfl
set_option maxRecDepth 20000 in
theorem q_46_4969 (G : Nat × (Nat → Int32)) (d : Nat)  (σ : aH) : Lq G d M_46 (0, [some (.ref 11), some (.ref 1), some (.ref 7), none], [], σ) = Lq G d M_46 (3, [some (.ref 11), some (.ref 1), some (.ref 7), none], [.int (40 : Int32), .ref 1], σ) :=
  (aUn_eq (tkd G.1 G.2) tmi (aRun (tkd G.1 G.2) tmi tmt d) M_46 [] 2 (0, [some (.ref 11), some (.ref 1), some (.ref 7), none], [], σ)).trans rfl
set_option maxRecDepth 20000 in
theorem q_46_4970 (G : Nat × (Nat → Int32)) (d : Nat) (s0 : Int32) (σ : aH) : Lq G d M_46 (3, [some (.ref 11), some (.ref 1), some (.ref 7), none], [.int s0, .ref 1], σ) = aCI (Rn G d 45 [.ref 1, .int s0] σ) fun v2 σ1 => Lq G d M_46 (6, [some (.ref 11), some (.ref 1), some (.ref 7), none], [.int v2], σ1) :=
  (aUn_eq (tkd G.1 G.2) tmi (aRun (tkd G.1 G.2) tmi tmt d) M_46 [] 1 (3, [some (.ref 11), some (.ref 1), some (.ref 7), none], [.int s0, .ref 1], σ)).trans rfl
set_option maxRecDepth 20000 in
theorem q_46_4971 (G : Nat × (Nat → Int32)) (d : Nat) (s0 : Int32) (σ : aH) : Lq G d M_46 (6, [some (.ref 11), some (.ref 1), some (.ref 7), none], [.int s0], σ) = Lq G d M_46 (13, [some (.ref 11), some (.ref 1), some (.ref 7), some (.int s0)], [.int (6 : Int32), .int (σ.1 11 2)], σ) :=
  (aUn_eq (tkd G.1 G.2) tmi (aRun (tkd G.1 G.2) tmi tmt d) M_46 [] 4 (6, [some (.ref 11), some (.ref 1), some (.ref 7), none], [.int s0], σ)).trans rfl
set_option maxRecDepth 20000 in
theorem q_46_4972 (G : Nat × (Nat → Int32)) (d : Nat) (x3 : Int32) (s0 : Int32) (s1 : Int32) (σ : aH) : Lq G d M_46 (13, [some (.ref 11), some (.ref 1), some (.ref 7), some (.int x3)], [.int s0, .int s1], σ) = if s1 < s0 then Lq G d M_46 (48, [some (.ref 11), some (.ref 1), some (.ref 7), some (.int x3)], [], σ) else Lq G d M_46 (16, [some (.ref 11), some (.ref 1), some (.ref 7), some (.int x3)], [], σ) :=
  (aUn_eq (tkd G.1 G.2) tmi (aRun (tkd G.1 G.2) tmi tmt d) M_46 [] 1 (13, [some (.ref 11), some (.ref 1), some (.ref 7), some (.int x3)], [.int s0, .int s1], σ)).trans rfl
set_option maxRecDepth 20000 in
theorem q_46_4973 (G : Nat × (Nat → Int32)) (d : Nat) (x3 : Int32) (σ : aH) : Lq G d M_46 (48, [some (.ref 11), some (.ref 1), some (.ref 7), some (.int x3)], [], σ) = Lq G d M_46 (49, [some (.ref 11), some (.ref 1), some (.ref 7), some (.int x3)], [.int x3], σ) :=
  (aUn_eq (tkd G.1 G.2) tmi (aRun (tkd G.1 G.2) tmi tmt d) M_46 [] 1 (48, [some (.ref 11), some (.ref 1), some (.ref 7), some (.int x3)], [], σ)).trans rfl
set_option maxRecDepth 20000 in
theorem q_46_4974 (G : Nat × (Nat → Int32)) (d : Nat) (x3 : Int32) (s0 : Int32) (σ : aH) : Lq G d M_46 (49, [some (.ref 11), some (.ref 1), some (.ref 7), some (.int x3)], [.int s0], σ) = if s0 = 0 then Lq G d M_46 (80, [some (.ref 11), some (.ref 1), some (.ref 7), some (.int x3)], [], σ) else Lq G d M_46 (52, [some (.ref 11), some (.ref 1), some (.ref 7), some (.int x3)], [], σ) :=
  (aUn_eq (tkd G.1 G.2) tmi (aRun (tkd G.1 G.2) tmi tmt d) M_46 [] 1 (49, [some (.ref 11), some (.ref 1), some (.ref 7), some (.int x3)], [.int s0], σ)).trans rfl
set_option maxRecDepth 20000 in
theorem q_46_4975 (G : Nat × (Nat → Int32)) (d : Nat) (x3 : Int32) (σ : aH) : Lq G d M_46 (80, [some (.ref 11), some (.ref 1), some (.ref 7), some (.int x3)], [], σ) = Lq G d M_46 (84, [some (.ref 11), some (.ref 1), some (.ref 7), some (.int x3)], [.int (σ.1 11 5)], σ) :=
  (aUn_eq (tkd G.1 G.2) tmi (aRun (tkd G.1 G.2) tmi tmt d) M_46 [] 2 (80, [some (.ref 11), some (.ref 1), some (.ref 7), some (.int x3)], [], σ)).trans rfl
set_option maxRecDepth 20000 in
theorem q_46_4976 (G : Nat × (Nat → Int32)) (d : Nat) (x3 : Int32) (s0 : Int32) (σ : aH) : Lq G d M_46 (84, [some (.ref 11), some (.ref 1), some (.ref 7), some (.int x3)], [.int s0], σ) = if s0 = 0 then Lq G d M_46 (128, [some (.ref 11), some (.ref 1), some (.ref 7), some (.int x3)], [], σ) else Lq G d M_46 (87, [some (.ref 11), some (.ref 1), some (.ref 7), some (.int x3)], [], σ) :=
  (aUn_eq (tkd G.1 G.2) tmi (aRun (tkd G.1 G.2) tmi tmt d) M_46 [] 1 (84, [some (.ref 11), some (.ref 1), some (.ref 7), some (.int x3)], [.int s0], σ)).trans rfl
set_option maxRecDepth 20000 in
theorem q_46_4977 (G : Nat × (Nat → Int32)) (d : Nat) (x3 : Int32) (σ : aH) : Lq G d M_46 (128, [some (.ref 11), some (.ref 1), some (.ref 7), some (.int x3)], [], σ) = Lq G d M_46 (130, [some (.ref 11), some (.ref 1), some (.ref 7), some (.int x3)], [.ref 7, .ref 1], σ) :=
  (aUn_eq (tkd G.1 G.2) tmi (aRun (tkd G.1 G.2) tmi tmt d) M_46 [] 2 (128, [some (.ref 11), some (.ref 1), some (.ref 7), some (.int x3)], [], σ)).trans rfl
set_option maxRecDepth 20000 in
theorem q_46_4978 (G : Nat × (Nat → Int32)) (d : Nat) (x3 : Int32) (σ : aH) : Lq G d M_46 (130, [some (.ref 11), some (.ref 1), some (.ref 7), some (.int x3)], [.ref 7, .ref 1], σ) = aCV (Rn G d 49 [.ref 1, .ref 7] σ) fun σ1 => Lq G d M_46 (133, [some (.ref 11), some (.ref 1), some (.ref 7), some (.int x3)], [], σ1) :=
  (aUn_eq (tkd G.1 G.2) tmi (aRun (tkd G.1 G.2) tmi tmt d) M_46 [] 1 (130, [some (.ref 11), some (.ref 1), some (.ref 7), some (.int x3)], [.ref 7, .ref 1], σ)).trans rfl
set_option maxRecDepth 20000 in
theorem q_46_4979 (G : Nat × (Nat → Int32)) (d : Nat) (x3 : Int32) (σ : aH) : Lq G d M_46 (133, [some (.ref 11), some (.ref 1), some (.ref 7), some (.int x3)], [], σ) = Lq G d M_46 (143, [some (.ref 11), some (.ref 1), some (.ref 7), some (.int x3)], [], (aSI (aSI σ 11 3 (0 : Int32)) 11 4 (0 : Int32))) :=
  (aUn_eq (tkd G.1 G.2) tmi (aRun (tkd G.1 G.2) tmi tmt d) M_46 [] 6 (133, [some (.ref 11), some (.ref 1), some (.ref 7), some (.int x3)], [], σ)).trans rfl
set_option maxRecDepth 20000 in
theorem q_46_4980 (G : Nat × (Nat → Int32)) (d : Nat) (x3 : Int32) (σ : aH) : Lq G d M_46 (143, [some (.ref 11), some (.ref 1), some (.ref 7), some (.int x3)], [], σ) = some (.inl none, σ) :=
  (aUn_eq (tkd G.1 G.2) tmi (aRun (tkd G.1 G.2) tmi tmt d) M_46 [] 1 (143, [some (.ref 11), some (.ref 1), some (.ref 7), some (.int x3)], [], σ)).trans rfl
set_option maxRecDepth 20000 in
theorem q_46_4981 (G : Nat × (Nat → Int32)) (d : Nat) (x3 : Int32) (σ : aH) : Lq G d M_46 (87, [some (.ref 11), some (.ref 1), some (.ref 7), some (.int x3)], [], σ) = Lq G d M_46 (90, [some (.ref 11), some (.ref 1), some (.ref 7), some (.int x3)], [.ref 108, .ref 1], σ) :=
  (aUn_eq (tkd G.1 G.2) tmi (aRun (tkd G.1 G.2) tmi tmt d) M_46 [] 2 (87, [some (.ref 11), some (.ref 1), some (.ref 7), some (.int x3)], [], σ)).trans rfl
set_option maxRecDepth 20000 in
theorem q_46_4982 (G : Nat × (Nat → Int32)) (d : Nat) (x3 : Int32) (σ : aH) : Lq G d M_46 (90, [some (.ref 11), some (.ref 1), some (.ref 7), some (.int x3)], [.ref 108, .ref 1], σ) = aCI (Rn G d 48 [.ref 1, .ref 108] σ) fun v2 σ1 => Lq G d M_46 (93, [some (.ref 11), some (.ref 1), some (.ref 7), some (.int x3)], [.int v2], σ1) :=
  (aUn_eq (tkd G.1 G.2) tmi (aRun (tkd G.1 G.2) tmi tmt d) M_46 [] 1 (90, [some (.ref 11), some (.ref 1), some (.ref 7), some (.int x3)], [.ref 108, .ref 1], σ)).trans rfl
set_option maxRecDepth 20000 in
theorem q_46_4983 (G : Nat × (Nat → Int32)) (d : Nat) (x3 : Int32) (s0 : Int32) (σ : aH) : Lq G d M_46 (93, [some (.ref 11), some (.ref 1), some (.ref 7), some (.int x3)], [.int s0], σ) = if s0 = 0 then Lq G d M_46 (128, [some (.ref 11), some (.ref 1), some (.ref 7), some (.int x3)], [], σ) else Lq G d M_46 (96, [some (.ref 11), some (.ref 1), some (.ref 7), some (.int x3)], [], σ) :=
  (aUn_eq (tkd G.1 G.2) tmi (aRun (tkd G.1 G.2) tmi tmt d) M_46 [] 1 (93, [some (.ref 11), some (.ref 1), some (.ref 7), some (.int x3)], [.int s0], σ)).trans rfl
set_option maxRecDepth 20000 in
theorem q_46_4984 (G : Nat × (Nat → Int32)) (d : Nat) (x3 : Int32) (σ : aH) : Lq G d M_46 (96, [some (.ref 11), some (.ref 1), some (.ref 7), some (.int x3)], [], σ) = Lq G d M_46 (102, [some (.ref 11), some (.ref 1), some (.ref 7), some (.int x3)], [.int (6 : Int32), .int (σ.1 11 3)], σ) :=
  (aUn_eq (tkd G.1 G.2) tmi (aRun (tkd G.1 G.2) tmi tmt d) M_46 [] 3 (96, [some (.ref 11), some (.ref 1), some (.ref 7), some (.int x3)], [], σ)).trans rfl
set_option maxRecDepth 20000 in
theorem q_46_4985 (G : Nat × (Nat → Int32)) (d : Nat) (x3 : Int32) (s0 : Int32) (s1 : Int32) (σ : aH) : Lq G d M_46 (102, [some (.ref 11), some (.ref 1), some (.ref 7), some (.int x3)], [.int s0, .int s1], σ) = if s1 < s0 then Lq G d M_46 (110, [some (.ref 11), some (.ref 1), some (.ref 7), some (.int x3)], [], σ) else Lq G d M_46 (105, [some (.ref 11), some (.ref 1), some (.ref 7), some (.int x3)], [], σ) :=
  (aUn_eq (tkd G.1 G.2) tmi (aRun (tkd G.1 G.2) tmi tmt d) M_46 [] 1 (102, [some (.ref 11), some (.ref 1), some (.ref 7), some (.int x3)], [.int s0, .int s1], σ)).trans rfl
set_option maxRecDepth 20000 in
theorem q_46_4986 (G : Nat × (Nat → Int32)) (d : Nat) (x3 : Int32) (σ : aH) : Lq G d M_46 (110, [some (.ref 11), some (.ref 1), some (.ref 7), some (.int x3)], [], σ) = Lq G d M_46 (112, [some (.ref 11), some (.ref 1), some (.ref 7), some (.int x3)], [.int (3 : Int32), .ref 11], σ) :=
  (aUn_eq (tkd G.1 G.2) tmi (aRun (tkd G.1 G.2) tmi tmt d) M_46 [] 2 (110, [some (.ref 11), some (.ref 1), some (.ref 7), some (.int x3)], [], σ)).trans rfl
set_option maxRecDepth 20000 in
theorem q_46_4987 (G : Nat × (Nat → Int32)) (d : Nat) (x3 : Int32) (s0 : Int32) (σ : aH) : Lq G d M_46 (112, [some (.ref 11), some (.ref 1), some (.ref 7), some (.int x3)], [.int s0, .ref 11], σ) = aCV (Rn G d 47 [.ref 11, .int s0] σ) fun σ1 => Lq G d M_46 (115, [some (.ref 11), some (.ref 1), some (.ref 7), some (.int x3)], [], σ1) :=
  (aUn_eq (tkd G.1 G.2) tmi (aRun (tkd G.1 G.2) tmi tmt d) M_46 [] 1 (112, [some (.ref 11), some (.ref 1), some (.ref 7), some (.int x3)], [.int s0, .ref 11], σ)).trans rfl
set_option maxRecDepth 20000 in
theorem q_46_4988 (G : Nat × (Nat → Int32)) (d : Nat) (x3 : Int32) (σ : aH) : Lq G d M_46 (115, [some (.ref 11), some (.ref 1), some (.ref 7), some (.int x3)], [], σ) = Lq G d M_46 (143, [some (.ref 11), some (.ref 1), some (.ref 7), some (.int x3)], [], (aSI σ 11 3 ((σ.1 11 3) + (1 : Int32)))) :=
  (aUn_eq (tkd G.1 G.2) tmi (aRun (tkd G.1 G.2) tmi tmt d) M_46 [] 7 (115, [some (.ref 11), some (.ref 1), some (.ref 7), some (.int x3)], [], σ)).trans rfl
set_option maxRecDepth 20000 in
theorem q_46_4989 (G : Nat × (Nat → Int32)) (d : Nat) (x3 : Int32) (σ : aH) : Lq G d M_46 (105, [some (.ref 11), some (.ref 1), some (.ref 7), some (.int x3)], [], σ) = Lq G d M_46 (107, [some (.ref 11), some (.ref 1), some (.ref 7), some (.int x3)], [.int (2 : Int32), .ref 1], σ) :=
  (aUn_eq (tkd G.1 G.2) tmi (aRun (tkd G.1 G.2) tmi tmt d) M_46 [] 2 (105, [some (.ref 11), some (.ref 1), some (.ref 7), some (.int x3)], [], σ)).trans rfl
set_option maxRecDepth 20000 in
theorem q_46_4990 (G : Nat × (Nat → Int32)) (d : Nat) (x3 : Int32) (s0 : Int32) (σ : aH) : Lq G d M_46 (107, [some (.ref 11), some (.ref 1), some (.ref 7), some (.int x3)], [.int s0, .ref 1], σ) = aCV (Rn G d 30 [.ref 1, .int s0] σ) fun σ1 => Lq G d M_46 (110, [some (.ref 11), some (.ref 1), some (.ref 7), some (.int x3)], [], σ1) :=
  (aUn_eq (tkd G.1 G.2) tmi (aRun (tkd G.1 G.2) tmi tmt d) M_46 [] 1 (107, [some (.ref 11), some (.ref 1), some (.ref 7), some (.int x3)], [.int s0, .ref 1], σ)).trans rfl
set_option maxRecDepth 20000 in
theorem q_46_4991 (G : Nat × (Nat → Int32)) (d : Nat) (x3 : Int32) (σ : aH) : Lq G d M_46 (52, [some (.ref 11), some (.ref 1), some (.ref 7), some (.int x3)], [], σ) = Lq G d M_46 (54, [some (.ref 11), some (.ref 1), some (.ref 7), some (.int x3)], [.int (0 : Int32), .ref 11], σ) :=
  (aUn_eq (tkd G.1 G.2) tmi (aRun (tkd G.1 G.2) tmi tmt d) M_46 [] 2 (52, [some (.ref 11), some (.ref 1), some (.ref 7), some (.int x3)], [], σ)).trans rfl
set_option maxRecDepth 20000 in
theorem q_46_4992 (G : Nat × (Nat → Int32)) (d : Nat) (x3 : Int32) (s0 : Int32) (σ : aH) : Lq G d M_46 (54, [some (.ref 11), some (.ref 1), some (.ref 7), some (.int x3)], [.int s0, .ref 11], σ) = aCV (Rn G d 47 [.ref 11, .int s0] σ) fun σ1 => Lq G d M_46 (57, [some (.ref 11), some (.ref 1), some (.ref 7), some (.int x3)], [], σ1) :=
  (aUn_eq (tkd G.1 G.2) tmi (aRun (tkd G.1 G.2) tmi tmt d) M_46 [] 1 (54, [some (.ref 11), some (.ref 1), some (.ref 7), some (.int x3)], [.int s0, .ref 11], σ)).trans rfl
set_option maxRecDepth 20000 in
theorem q_46_4993 (G : Nat × (Nat → Int32)) (d : Nat) (x3 : Int32) (σ : aH) : Lq G d M_46 (57, [some (.ref 11), some (.ref 1), some (.ref 7), some (.int x3)], [], σ) = Lq G d M_46 (77, [some (.ref 11), some (.ref 1), some (.ref 7), some (.int x3)], [], (aSI (aSI (aSI σ 11 2 ((σ.1 11 2) + (1 : Int32))) 11 3 (0 : Int32)) 11 5 (1 : Int32))) :=
  (aUn_eq (tkd G.1 G.2) tmi (aRun (tkd G.1 G.2) tmi tmt d) M_46 [] 12 (57, [some (.ref 11), some (.ref 1), some (.ref 7), some (.int x3)], [], σ)).trans rfl
set_option maxRecDepth 20000 in
theorem q_46_4994 (G : Nat × (Nat → Int32)) (d : Nat) (x3 : Int32) (σ : aH) : Lq G d M_46 (77, [some (.ref 11), some (.ref 1), some (.ref 7), some (.int x3)], [], σ) = Lq G d M_46 (143, [some (.ref 11), some (.ref 1), some (.ref 7), some (.int x3)], [], σ) :=
  (aUn_eq (tkd G.1 G.2) tmi (aRun (tkd G.1 G.2) tmi tmt d) M_46 [] 1 (77, [some (.ref 11), some (.ref 1), some (.ref 7), some (.int x3)], [], σ)).trans rfl
set_option maxRecDepth 20000 in
theorem q_46_4995 (G : Nat × (Nat → Int32)) (d : Nat) (x3 : Int32) (σ : aH) : Lq G d M_46 (16, [some (.ref 11), some (.ref 1), some (.ref 7), some (.int x3)], [], σ) = Lq G d M_46 (18, [some (.ref 11), some (.ref 1), some (.ref 7), some (.int x3)], [.int x3, .ref 1], σ) :=
  (aUn_eq (tkd G.1 G.2) tmi (aRun (tkd G.1 G.2) tmi tmt d) M_46 [] 2 (16, [some (.ref 11), some (.ref 1), some (.ref 7), some (.int x3)], [], σ)).trans rfl
set_option maxRecDepth 20000 in
theorem q_46_4996 (G : Nat × (Nat → Int32)) (d : Nat) (x3 : Int32) (s0 : Int32) (σ : aH) : Lq G d M_46 (18, [some (.ref 11), some (.ref 1), some (.ref 7), some (.int x3)], [.int s0, .ref 1], σ) = if s0 = 0 then Lq G d M_46 (21, [some (.ref 11), some (.ref 1), some (.ref 7), some (.int x3)], [.ref 1], σ) else Lq G d M_46 (37, [some (.ref 11), some (.ref 1), some (.ref 7), some (.int x3)], [.ref 1], σ) :=
  (aUn_eq (tkd G.1 G.2) tmi (aRun (tkd G.1 G.2) tmi tmt d) M_46 [] 1 (18, [some (.ref 11), some (.ref 1), some (.ref 7), some (.int x3)], [.int s0, .ref 1], σ)).trans rfl
set_option maxRecDepth 20000 in
theorem q_46_4997 (G : Nat × (Nat → Int32)) (d : Nat) (x3 : Int32) (σ : aH) : Lq G d M_46 (21, [some (.ref 11), some (.ref 1), some (.ref 7), some (.int x3)], [.ref 1], σ) = Lq G d M_46 (26, [some (.ref 11), some (.ref 1), some (.ref 7), some (.int x3)], [.int (2 : Int32), .int (σ.1 1 4), .ref 1], σ) :=
  (aUn_eq (tkd G.1 G.2) tmi (aRun (tkd G.1 G.2) tmi tmt d) M_46 [] 3 (21, [some (.ref 11), some (.ref 1), some (.ref 7), some (.int x3)], [.ref 1], σ)).trans rfl
set_option maxRecDepth 20000 in
theorem q_46_4998 (G : Nat × (Nat → Int32)) (d : Nat) (x3 : Int32) (s0 : Int32) (s1 : Int32) (σ : aH) : Lq G d M_46 (26, [some (.ref 11), some (.ref 1), some (.ref 7), some (.int x3)], [.int s0, .int s1, .ref 1], σ) = if s1 = s0 then Lq G d M_46 (37, [some (.ref 11), some (.ref 1), some (.ref 7), some (.int x3)], [.ref 1], σ) else Lq G d M_46 (29, [some (.ref 11), some (.ref 1), some (.ref 7), some (.int x3)], [.ref 1], σ) :=
  (aUn_eq (tkd G.1 G.2) tmi (aRun (tkd G.1 G.2) tmi tmt d) M_46 [] 1 (26, [some (.ref 11), some (.ref 1), some (.ref 7), some (.int x3)], [.int s0, .int s1, .ref 1], σ)).trans rfl
set_option maxRecDepth 20000 in
theorem q_46_4999 (G : Nat × (Nat → Int32)) (d : Nat) (x3 : Int32) (σ : aH) : Lq G d M_46 (37, [some (.ref 11), some (.ref 1), some (.ref 7), some (.int x3)], [.ref 1], σ) = Lq G d M_46 (42, [some (.ref 11), some (.ref 1), some (.ref 7), some (.int x3)], [.int (2 : Int32), .ref 1], σ) :=
  (aUn_eq (tkd G.1 G.2) tmi (aRun (tkd G.1 G.2) tmi tmt d) M_46 [] 2 (37, [some (.ref 11), some (.ref 1), some (.ref 7), some (.int x3)], [.ref 1], σ)).trans rfl
set_option maxRecDepth 20000 in
theorem q_46_5000 (G : Nat × (Nat → Int32)) (d : Nat) (x3 : Int32) (s0 : Int32) (σ : aH) : Lq G d M_46 (42, [some (.ref 11), some (.ref 1), some (.ref 7), some (.int x3)], [.int s0, .ref 1], σ) = aCV (Rn G d 30 [.ref 1, .int s0] σ) fun σ1 => Lq G d M_46 (45, [some (.ref 11), some (.ref 1), some (.ref 7), some (.int x3)], [], σ1) :=
  (aUn_eq (tkd G.1 G.2) tmi (aRun (tkd G.1 G.2) tmi tmt d) M_46 [] 1 (42, [some (.ref 11), some (.ref 1), some (.ref 7), some (.int x3)], [.int s0, .ref 1], σ)).trans rfl
set_option maxRecDepth 20000 in
theorem q_46_5001 (G : Nat × (Nat → Int32)) (d : Nat) (x3 : Int32) (σ : aH) : Lq G d M_46 (45, [some (.ref 11), some (.ref 1), some (.ref 7), some (.int x3)], [], σ) = Lq G d M_46 (143, [some (.ref 11), some (.ref 1), some (.ref 7), some (.int x3)], [], σ) :=
  (aUn_eq (tkd G.1 G.2) tmi (aRun (tkd G.1 G.2) tmi tmt d) M_46 [] 1 (45, [some (.ref 11), some (.ref 1), some (.ref 7), some (.int x3)], [], σ)).trans rfl
set_option maxRecDepth 20000 in
theorem q_46_5002 (G : Nat × (Nat → Int32)) (d : Nat) (x3 : Int32) (σ : aH) : Lq G d M_46 (29, [some (.ref 11), some (.ref 1), some (.ref 7), some (.int x3)], [.ref 1], σ) = Lq G d M_46 (34, [some (.ref 11), some (.ref 1), some (.ref 7), some (.int x3)], [.int (1 : Int32), .int (σ.1 1 4), .ref 1], σ) :=
  (aUn_eq (tkd G.1 G.2) tmi (aRun (tkd G.1 G.2) tmi tmt d) M_46 [] 3 (29, [some (.ref 11), some (.ref 1), some (.ref 7), some (.int x3)], [.ref 1], σ)).trans rfl
set_option maxRecDepth 20000 in
theorem q_46_5003 (G : Nat × (Nat → Int32)) (d : Nat) (x3 : Int32) (s0 : Int32) (s1 : Int32) (σ : aH) : Lq G d M_46 (34, [some (.ref 11), some (.ref 1), some (.ref 7), some (.int x3)], [.int s0, .int s1, .ref 1], σ) = if s1 = s0 then Lq G d M_46 (37, [some (.ref 11), some (.ref 1), some (.ref 7), some (.int x3)], [.ref 1], σ) else Lq G d M_46 (41, [some (.ref 11), some (.ref 1), some (.ref 7), some (.int x3)], [.ref 1], σ) :=
  (aUn_eq (tkd G.1 G.2) tmi (aRun (tkd G.1 G.2) tmi tmt d) M_46 [] 1 (34, [some (.ref 11), some (.ref 1), some (.ref 7), some (.int x3)], [.int s0, .int s1, .ref 1], σ)).trans rfl
set_option maxRecDepth 20000 in
theorem q_46_5004 (G : Nat × (Nat → Int32)) (d : Nat) (x3 : Int32) (σ : aH) : Lq G d M_46 (41, [some (.ref 11), some (.ref 1), some (.ref 7), some (.int x3)], [.ref 1], σ) = Lq G d M_46 (42, [some (.ref 11), some (.ref 1), some (.ref 7), some (.int x3)], [.int (1 : Int32), .ref 1], σ) :=
  (aUn_eq (tkd G.1 G.2) tmi (aRun (tkd G.1 G.2) tmi tmt d) M_46 [] 1 (41, [some (.ref 11), some (.ref 1), some (.ref 7), some (.int x3)], [.ref 1], σ)).trans rfl
set_option maxRecDepth 20000 in
theorem q_70_5005 (G : Nat × (Nat → Int32)) (d : Nat) (x0 : Int32) (σ : aH) : Lq G d M_70 (0, [some (.int x0)], [], σ) = Lq G d M_70 (1, [some (.int x0)], [.int x0], σ) :=
  (aUn_eq (tkd G.1 G.2) tmi (aRun (tkd G.1 G.2) tmi tmt d) M_70 [] 1 (0, [some (.int x0)], [], σ)).trans rfl
set_option maxRecDepth 20000 in
theorem q_70_5006 (G : Nat × (Nat → Int32)) (d : Nat) (x0 : Int32) (s0 : Int32) (σ : aH) : Lq G d M_70 (1, [some (.int x0)], [.int s0], σ) = if s0 = (0 : Int32) then Lq G d M_70 (172, [some (.int x0)], [], σ) else if s0 = (1 : Int32) then Lq G d M_70 (187, [some (.int x0)], [], σ) else if s0 = (2 : Int32) then Lq G d M_70 (202, [some (.int x0)], [], σ) else if s0 = (3 : Int32) then Lq G d M_70 (218, [some (.int x0)], [], σ) else if s0 = (4 : Int32) then Lq G d M_70 (234, [some (.int x0)], [], σ) else if s0 = (5 : Int32) then Lq G d M_70 (249, [some (.int x0)], [], σ) else if s0 = (6 : Int32) then Lq G d M_70 (263, [some (.int x0)], [], σ) else if s0 = (7 : Int32) then Lq G d M_70 (278, [some (.int x0)], [], σ) else if s0 = (8 : Int32) then Lq G d M_70 (292, [some (.int x0)], [], σ) else if s0 = (9 : Int32) then Lq G d M_70 (308, [some (.int x0)], [], σ) else if s0 = (10 : Int32) then Lq G d M_70 (323, [some (.int x0)], [], σ) else if s0 = (11 : Int32) then Lq G d M_70 (341, [some (.int x0)], [], σ) else if s0 = (12 : Int32) then Lq G d M_70 (355, [some (.int x0)], [], σ) else if s0 = (13 : Int32) then Lq G d M_70 (372, [some (.int x0)], [], σ) else if s0 = (14 : Int32) then Lq G d M_70 (388, [some (.int x0)], [], σ) else if s0 = (15 : Int32) then Lq G d M_70 (404, [some (.int x0)], [], σ) else if s0 = (16 : Int32) then Lq G d M_70 (420, [some (.int x0)], [], σ) else if s0 = (17 : Int32) then Lq G d M_70 (436, [some (.int x0)], [], σ) else if s0 = (18 : Int32) then Lq G d M_70 (450, [some (.int x0)], [], σ) else if s0 = (19 : Int32) then Lq G d M_70 (465, [some (.int x0)], [], σ) else if s0 = (20 : Int32) then Lq G d M_70 (483, [some (.int x0)], [], σ) else if s0 = (21 : Int32) then Lq G d M_70 (500, [some (.int x0)], [], σ) else if s0 = (22 : Int32) then Lq G d M_70 (516, [some (.int x0)], [], σ) else if s0 = (23 : Int32) then Lq G d M_70 (532, [some (.int x0)], [], σ) else if s0 = (24 : Int32) then Lq G d M_70 (546, [some (.int x0)], [], σ) else if s0 = (25 : Int32) then Lq G d M_70 (560, [some (.int x0)], [], σ) else if s0 = (26 : Int32) then Lq G d M_70 (576, [some (.int x0)], [], σ) else if s0 = (27 : Int32) then Lq G d M_70 (591, [some (.int x0)], [], σ) else if s0 = (28 : Int32) then Lq G d M_70 (605, [some (.int x0)], [], σ) else if s0 = (29 : Int32) then Lq G d M_70 (622, [some (.int x0)], [], σ) else if s0 = (30 : Int32) then Lq G d M_70 (637, [some (.int x0)], [], σ) else if s0 = (31 : Int32) then Lq G d M_70 (653, [some (.int x0)], [], σ) else if s0 = (32 : Int32) then Lq G d M_70 (668, [some (.int x0)], [], σ) else if s0 = (33 : Int32) then Lq G d M_70 (682, [some (.int x0)], [], σ) else if s0 = (34 : Int32) then Lq G d M_70 (696, [some (.int x0)], [], σ) else if s0 = (35 : Int32) then Lq G d M_70 (755, [some (.int x0)], [], σ) else if s0 = (36 : Int32) then Lq G d M_70 (709, [some (.int x0)], [], σ) else if s0 = (37 : Int32) then Lq G d M_70 (725, [some (.int x0)], [], σ) else if s0 = (38 : Int32) then Lq G d M_70 (740, [some (.int x0)], [], σ) else Lq G d M_70 (755, [some (.int x0)], [], σ) :=
  (aUn_eq (tkd G.1 G.2) tmi (aRun (tkd G.1 G.2) tmi tmt d) M_70 [] 1 (1, [some (.int x0)], [.int s0], σ)).trans rfl
set_option maxRecDepth 20000 in
theorem q_70_5007 (G : Nat × (Nat → Int32)) (d : Nat) (x0 : Int32) (σ : aH) : Lq G d M_70 (172, [some (.int x0)], [], σ) = Lq G d M_70 (183, [some (.int x0)], [.int (0 : Int32), .int (0 : Int32), .int (0 : Int32), .int (116 : Int32), .int (108 : Int32), .int (101 : Int32), .int (102 : Int32)], σ) :=
  (aUn_eq (tkd G.1 G.2) tmi (aRun (tkd G.1 G.2) tmi tmt d) M_70 [] 7 (172, [some (.int x0)], [], σ)).trans rfl
set_option maxRecDepth 20000 in
theorem q_70_5008 (G : Nat × (Nat → Int32)) (d : Nat) (x0 : Int32) (s0 : Int32) (s1 : Int32) (s2 : Int32) (s3 : Int32) (s4 : Int32) (s5 : Int32) (s6 : Int32) (σ : aH) : Lq G d M_70 (183, [some (.int x0)], [.int s0, .int s1, .int s2, .int s3, .int s4, .int s5, .int s6], σ) = aCL (Rn G d 71 [.int s6, .int s5, .int s4, .int s3, .int s2, .int s1, .int s0] σ) fun v2 σ1 => Lq G d M_70 (186, [some (.int x0)], [.long v2], σ1) :=
  (aUn_eq (tkd G.1 G.2) tmi (aRun (tkd G.1 G.2) tmi tmt d) M_70 [] 1 (183, [some (.int x0)], [.int s0, .int s1, .int s2, .int s3, .int s4, .int s5, .int s6], σ)).trans rfl
set_option maxRecDepth 20000 in
theorem q_70_5009 (G : Nat × (Nat → Int32)) (d : Nat) (x0 : Int32) (s0 : Int64) (σ : aH) : Lq G d M_70 (186, [some (.int x0)], [.long s0], σ) = some (.inl (some (.long s0)), σ) :=
  (aUn_eq (tkd G.1 G.2) tmi (aRun (tkd G.1 G.2) tmi tmt d) M_70 [] 1 (186, [some (.int x0)], [.long s0], σ)).trans rfl
set_option maxRecDepth 20000 in
theorem q_70_5010 (G : Nat × (Nat → Int32)) (d : Nat) (x0 : Int32) (σ : aH) : Lq G d M_70 (187, [some (.int x0)], [], σ) = Lq G d M_70 (198, [some (.int x0)], [.int (0 : Int32), .int (0 : Int32), .int (0 : Int32), .int (100 : Int32), .int (105 : Int32), .int (97 : Int32), .int (115 : Int32)], σ) :=
  (aUn_eq (tkd G.1 G.2) tmi (aRun (tkd G.1 G.2) tmi tmt d) M_70 [] 7 (187, [some (.int x0)], [], σ)).trans rfl
set_option maxRecDepth 20000 in
theorem q_70_5011 (G : Nat × (Nat → Int32)) (d : Nat) (x0 : Int32) (s0 : Int32) (s1 : Int32) (s2 : Int32) (s3 : Int32) (s4 : Int32) (s5 : Int32) (s6 : Int32) (σ : aH) : Lq G d M_70 (198, [some (.int x0)], [.int s0, .int s1, .int s2, .int s3, .int s4, .int s5, .int s6], σ) = aCL (Rn G d 71 [.int s6, .int s5, .int s4, .int s3, .int s2, .int s1, .int s0] σ) fun v2 σ1 => Lq G d M_70 (201, [some (.int x0)], [.long v2], σ1) :=
  (aUn_eq (tkd G.1 G.2) tmi (aRun (tkd G.1 G.2) tmi tmt d) M_70 [] 1 (198, [some (.int x0)], [.int s0, .int s1, .int s2, .int s3, .int s4, .int s5, .int s6], σ)).trans rfl
set_option maxRecDepth 20000 in
theorem q_70_5012 (G : Nat × (Nat → Int32)) (d : Nat) (x0 : Int32) (s0 : Int64) (σ : aH) : Lq G d M_70 (201, [some (.int x0)], [.long s0], σ) = some (.inl (some (.long s0)), σ) :=
  (aUn_eq (tkd G.1 G.2) tmi (aRun (tkd G.1 G.2) tmi tmt d) M_70 [] 1 (201, [some (.int x0)], [.long s0], σ)).trans rfl
set_option maxRecDepth 20000 in
theorem q_70_5013 (G : Nat × (Nat → Int32)) (d : Nat) (x0 : Int32) (σ : aH) : Lq G d M_70 (202, [some (.int x0)], [], σ) = Lq G d M_70 (214, [some (.int x0)], [.int (0 : Int32), .int (0 : Int32), .int (110 : Int32), .int (119 : Int32), .int (111 : Int32), .int (104 : Int32), .int (115 : Int32)], σ) :=
  (aUn_eq (tkd G.1 G.2) tmi (aRun (tkd G.1 G.2) tmi tmt d) M_70 [] 7 (202, [some (.int x0)], [], σ)).trans rfl
set_option maxRecDepth 20000 in
theorem q_70_5014 (G : Nat × (Nat → Int32)) (d : Nat) (x0 : Int32) (s0 : Int32) (s1 : Int32) (s2 : Int32) (s3 : Int32) (s4 : Int32) (s5 : Int32) (s6 : Int32) (σ : aH) : Lq G d M_70 (214, [some (.int x0)], [.int s0, .int s1, .int s2, .int s3, .int s4, .int s5, .int s6], σ) = aCL (Rn G d 71 [.int s6, .int s5, .int s4, .int s3, .int s2, .int s1, .int s0] σ) fun v2 σ1 => Lq G d M_70 (217, [some (.int x0)], [.long v2], σ1) :=
  (aUn_eq (tkd G.1 G.2) tmi (aRun (tkd G.1 G.2) tmi tmt d) M_70 [] 1 (214, [some (.int x0)], [.int s0, .int s1, .int s2, .int s3, .int s4, .int s5, .int s6], σ)).trans rfl
set_option maxRecDepth 20000 in
theorem q_70_5015 (G : Nat × (Nat → Int32)) (d : Nat) (x0 : Int32) (s0 : Int64) (σ : aH) : Lq G d M_70 (217, [some (.int x0)], [.long s0], σ) = some (.inl (some (.long s0)), σ) :=
  (aUn_eq (tkd G.1 G.2) tmi (aRun (tkd G.1 G.2) tmi tmt d) M_70 [] 1 (217, [some (.int x0)], [.long s0], σ)).trans rfl
set_option maxRecDepth 20000 in
theorem q_70_5016 (G : Nat × (Nat → Int32)) (d : Nat) (x0 : Int32) (σ : aH) : Lq G d M_70 (218, [some (.int x0)], [], σ) = Lq G d M_70 (230, [some (.int x0)], [.int (0 : Int32), .int (0 : Int32), .int (116 : Int32), .int (114 : Int32), .int (97 : Int32), .int (116 : Int32), .int (115 : Int32)], σ) :=
  (aUn_eq (tkd G.1 G.2) tmi (aRun (tkd G.1 G.2) tmi tmt d) M_70 [] 7 (218, [some (.int x0)], [], σ)).trans rfl
set_option maxRecDepth 20000 in
theorem q_70_5017 (G : Nat × (Nat → Int32)) (d : Nat) (x0 : Int32) (s0 : Int32) (s1 : Int32) (s2 : Int32) (s3 : Int32) (s4 : Int32) (s5 : Int32) (s6 : Int32) (σ : aH) : Lq G d M_70 (230, [some (.int x0)], [.int s0, .int s1, .int s2, .int s3, .int s4, .int s5, .int s6], σ) = aCL (Rn G d 71 [.int s6, .int s5, .int s4, .int s3, .int s2, .int s1, .int s0] σ) fun v2 σ1 => Lq G d M_70 (233, [some (.int x0)], [.long v2], σ1) :=
  (aUn_eq (tkd G.1 G.2) tmi (aRun (tkd G.1 G.2) tmi tmt d) M_70 [] 1 (230, [some (.int x0)], [.int s0, .int s1, .int s2, .int s3, .int s4, .int s5, .int s6], σ)).trans rfl
set_option maxRecDepth 20000 in
theorem q_70_5018 (G : Nat × (Nat → Int32)) (d : Nat) (x0 : Int32) (s0 : Int64) (σ : aH) : Lq G d M_70 (233, [some (.int x0)], [.long s0], σ) = some (.inl (some (.long s0)), σ) :=
  (aUn_eq (tkd G.1 G.2) tmi (aRun (tkd G.1 G.2) tmi tmt d) M_70 [] 1 (233, [some (.int x0)], [.long s0], σ)).trans rfl
set_option maxRecDepth 20000 in
theorem q_70_5019 (G : Nat × (Nat → Int32)) (d : Nat) (x0 : Int32) (σ : aH) : Lq G d M_70 (234, [some (.int x0)], [], σ) = Lq G d M_70 (245, [some (.int x0)], [.int (0 : Int32), .int (0 : Int32), .int (0 : Int32), .int (119 : Int32), .int (111 : Int32), .int (108 : Int32), .int (115 : Int32)], σ) :=
  (aUn_eq (tkd G.1 G.2) tmi (aRun (tkd G.1 G.2) tmi tmt d) M_70 [] 7 (234, [some (.int x0)], [], σ)).trans rfl
set_option maxRecDepth 20000 in
theorem q_70_5020 (G : Nat × (Nat → Int32)) (d : Nat) (x0 : Int32) (s0 : Int32) (s1 : Int32) (s2 : Int32) (s3 : Int32) (s4 : Int32) (s5 : Int32) (s6 : Int32) (σ : aH) : Lq G d M_70 (245, [some (.int x0)], [.int s0, .int s1, .int s2, .int s3, .int s4, .int s5, .int s6], σ) = aCL (Rn G d 71 [.int s6, .int s5, .int s4, .int s3, .int s2, .int s1, .int s0] σ) fun v2 σ1 => Lq G d M_70 (248, [some (.int x0)], [.long v2], σ1) :=
  (aUn_eq (tkd G.1 G.2) tmi (aRun (tkd G.1 G.2) tmi tmt d) M_70 [] 1 (245, [some (.int x0)], [.int s0, .int s1, .int s2, .int s3, .int s4, .int s5, .int s6], σ)).trans rfl
set_option maxRecDepth 20000 in
theorem q_70_5021 (G : Nat × (Nat → Int32)) (d : Nat) (x0 : Int32) (s0 : Int64) (σ : aH) : Lq G d M_70 (248, [some (.int x0)], [.long s0], σ) = some (.inl (some (.long s0)), σ) :=
  (aUn_eq (tkd G.1 G.2) tmi (aRun (tkd G.1 G.2) tmi tmt d) M_70 [] 1 (248, [some (.int x0)], [.long s0], σ)).trans rfl
set_option maxRecDepth 20000 in
theorem q_70_5022 (G : Nat × (Nat → Int32)) (d : Nat) (x0 : Int32) (σ : aH) : Lq G d M_70 (249, [some (.int x0)], [], σ) = Lq G d M_70 (259, [some (.int x0)], [.int (0 : Int32), .int (0 : Int32), .int (0 : Int32), .int (0 : Int32), .int (114 : Int32), .int (97 : Int32), .int (102 : Int32)], σ) :=
  (aUn_eq (tkd G.1 G.2) tmi (aRun (tkd G.1 G.2) tmi tmt d) M_70 [] 7 (249, [some (.int x0)], [], σ)).trans rfl
set_option maxRecDepth 20000 in
theorem q_70_5023 (G : Nat × (Nat → Int32)) (d : Nat) (x0 : Int32) (s0 : Int32) (s1 : Int32) (s2 : Int32) (s3 : Int32) (s4 : Int32) (s5 : Int32) (s6 : Int32) (σ : aH) : Lq G d M_70 (259, [some (.int x0)], [.int s0, .int s1, .int s2, .int s3, .int s4, .int s5, .int s6], σ) = aCL (Rn G d 71 [.int s6, .int s5, .int s4, .int s3, .int s2, .int s1, .int s0] σ) fun v2 σ1 => Lq G d M_70 (262, [some (.int x0)], [.long v2], σ1) :=
  (aUn_eq (tkd G.1 G.2) tmi (aRun (tkd G.1 G.2) tmi tmt d) M_70 [] 1 (259, [some (.int x0)], [.int s0, .int s1, .int s2, .int s3, .int s4, .int s5, .int s6], σ)).trans rfl
set_option maxRecDepth 20000 in
theorem q_70_5024 (G : Nat × (Nat → Int32)) (d : Nat) (x0 : Int32) (s0 : Int64) (σ : aH) : Lq G d M_70 (262, [some (.int x0)], [.long s0], σ) = some (.inl (some (.long s0)), σ) :=
  (aUn_eq (tkd G.1 G.2) tmi (aRun (tkd G.1 G.2) tmi tmt d) M_70 [] 1 (262, [some (.int x0)], [.long s0], σ)).trans rfl
set_option maxRecDepth 20000 in
theorem q_70_5025 (G : Nat × (Nat → Int32)) (d : Nat) (x0 : Int32) (σ : aH) : Lq G d M_70 (263, [some (.int x0)], [], σ) = Lq G d M_70 (274, [some (.int x0)], [.int (0 : Int32), .int (0 : Int32), .int (0 : Int32), .int (101 : Int32), .int (116 : Int32), .int (97 : Int32), .int (108 : Int32)], σ) :=
  (aUn_eq (tkd G.1 G.2) tmi (aRun (tkd G.1 G.2) tmi tmt d) M_70 [] 7 (263, [some (.int x0)], [], σ)).trans rfl
set_option maxRecDepth 20000 in
theorem q_70_5026 (G : Nat × (Nat → Int32)) (d : Nat) (x0 : Int32) (s0 : Int32) (s1 : Int32) (s2 : Int32) (s3 : Int32) (s4 : Int32) (s5 : Int32) (s6 : Int32) (σ : aH) : Lq G d M_70 (274, [some (.int x0)], [.int s0, .int s1, .int s2, .int s3, .int s4, .int s5, .int s6], σ) = aCL (Rn G d 71 [.int s6, .int s5, .int s4, .int s3, .int s2, .int s1, .int s0] σ) fun v2 σ1 => Lq G d M_70 (277, [some (.int x0)], [.long v2], σ1) :=
  (aUn_eq (tkd G.1 G.2) tmi (aRun (tkd G.1 G.2) tmi tmt d) M_70 [] 1 (274, [some (.int x0)], [.int s0, .int s1, .int s2, .int s3, .int s4, .int s5, .int s6], σ)).trans rfl
set_option maxRecDepth 20000 in
theorem q_70_5027 (G : Nat × (Nat → Int32)) (d : Nat) (x0 : Int32) (s0 : Int64) (σ : aH) : Lq G d M_70 (277, [some (.int x0)], [.long s0], σ) = some (.inl (some (.long s0)), σ) :=
  (aUn_eq (tkd G.1 G.2) tmi (aRun (tkd G.1 G.2) tmi tmt d) M_70 [] 1 (277, [some (.int x0)], [.long s0], σ)).trans rfl
set_option maxRecDepth 20000 in
theorem q_70_5028 (G : Nat × (Nat → Int32)) (d : Nat) (x0 : Int32) (σ : aH) : Lq G d M_70 (278, [some (.int x0)], [], σ) = Lq G d M_70 (288, [some (.int x0)], [.int (0 : Int32), .int (0 : Int32), .int (0 : Int32), .int (0 : Int32), .int (121 : Int32), .int (97 : Int32), .int (119 : Int32)], σ) :=
  (aUn_eq (tkd G.1 G.2) tmi (aRun (tkd G.1 G.2) tmi tmt d) M_70 [] 7 (278, [some (.int x0)], [], σ)).trans rfl
set_option maxRecDepth 20000 in
theorem q_70_5029 (G : Nat × (Nat → Int32)) (d : Nat) (x0 : Int32) (s0 : Int32) (s1 : Int32) (s2 : Int32) (s3 : Int32) (s4 : Int32) (s5 : Int32) (s6 : Int32) (σ : aH) : Lq G d M_70 (288, [some (.int x0)], [.int s0, .int s1, .int s2, .int s3, .int s4, .int s5, .int s6], σ) = aCL (Rn G d 71 [.int s6, .int s5, .int s4, .int s3, .int s2, .int s1, .int s0] σ) fun v2 σ1 => Lq G d M_70 (291, [some (.int x0)], [.long v2], σ1) :=
  (aUn_eq (tkd G.1 G.2) tmi (aRun (tkd G.1 G.2) tmi tmt d) M_70 [] 1 (288, [some (.int x0)], [.int s0, .int s1, .int s2, .int s3, .int s4, .int s5, .int s6], σ)).trans rfl
set_option maxRecDepth 20000 in
theorem q_70_5030 (G : Nat × (Nat → Int32)) (d : Nat) (x0 : Int32) (s0 : Int64) (σ : aH) : Lq G d M_70 (291, [some (.int x0)], [.long s0], σ) = some (.inl (some (.long s0)), σ) :=
  (aUn_eq (tkd G.1 G.2) tmi (aRun (tkd G.1 G.2) tmi tmt d) M_70 [] 1 (291, [some (.int x0)], [.long s0], σ)).trans rfl
set_option maxRecDepth 20000 in
theorem q_70_5031 (G : Nat × (Nat → Int32)) (d : Nat) (x0 : Int32) (σ : aH) : Lq G d M_70 (292, [some (.int x0)], [], σ) = Lq G d M_70 (304, [some (.int x0)], [.int (0 : Int32), .int (0 : Int32), .int (103 : Int32), .int (110 : Int32), .int (105 : Int32), .int (104 : Int32), .int (116 : Int32)], σ) :=
  (aUn_eq (tkd G.1 G.2) tmi (aRun (tkd G.1 G.2) tmi tmt d) M_70 [] 7 (292, [some (.int x0)], [], σ)).trans rfl
set_option maxRecDepth 20000 in
theorem q_70_5032 (G : Nat × (Nat → Int32)) (d : Nat) (x0 : Int32) (s0 : Int32) (s1 : Int32) (s2 : Int32) (s3 : Int32) (s4 : Int32) (s5 : Int32) (s6 : Int32) (σ : aH) : Lq G d M_70 (304, [some (.int x0)], [.int s0, .int s1, .int s2, .int s3, .int s4, .int s5, .int s6], σ) = aCL (Rn G d 71 [.int s6, .int s5, .int s4, .int s3, .int s2, .int s1, .int s0] σ) fun v2 σ1 => Lq G d M_70 (307, [some (.int x0)], [.long v2], σ1) :=
  (aUn_eq (tkd G.1 G.2) tmi (aRun (tkd G.1 G.2) tmi tmt d) M_70 [] 1 (304, [some (.int x0)], [.int s0, .int s1, .int s2, .int s3, .int s4, .int s5, .int s6], σ)).trans rfl
set_option maxRecDepth 20000 in
theorem q_70_5033 (G : Nat × (Nat → Int32)) (d : Nat) (x0 : Int32) (s0 : Int64) (σ : aH) : Lq G d M_70 (307, [some (.int x0)], [.long s0], σ) = some (.inl (some (.long s0)), σ) :=
  (aUn_eq (tkd G.1 G.2) tmi (aRun (tkd G.1 G.2) tmi tmt d) M_70 [] 1 (307, [some (.int x0)], [.long s0], σ)).trans rfl
set_option maxRecDepth 20000 in
theorem q_70_5034 (G : Nat × (Nat → Int32)) (d : Nat) (x0 : Int32) (σ : aH) : Lq G d M_70 (308, [some (.int x0)], [], σ) = Lq G d M_70 (319, [some (.int x0)], [.int (0 : Int32), .int (0 : Int32), .int (0 : Int32), .int (100 : Int32), .int (108 : Int32), .int (111 : Int32), .int (116 : Int32)], σ) :=
  (aUn_eq (tkd G.1 G.2) tmi (aRun (tkd G.1 G.2) tmi tmt d) M_70 [] 7 (308, [some (.int x0)], [], σ)).trans rfl
set_option maxRecDepth 20000 in
theorem q_70_5035 (G : Nat × (Nat → Int32)) (d : Nat) (x0 : Int32) (s0 : Int32) (s1 : Int32) (s2 : Int32) (s3 : Int32) (s4 : Int32) (s5 : Int32) (s6 : Int32) (σ : aH) : Lq G d M_70 (319, [some (.int x0)], [.int s0, .int s1, .int s2, .int s3, .int s4, .int s5, .int s6], σ) = aCL (Rn G d 71 [.int s6, .int s5, .int s4, .int s3, .int s2, .int s1, .int s0] σ) fun v2 σ1 => Lq G d M_70 (322, [some (.int x0)], [.long v2], σ1) :=
  (aUn_eq (tkd G.1 G.2) tmi (aRun (tkd G.1 G.2) tmi tmt d) M_70 [] 1 (319, [some (.int x0)], [.int s0, .int s1, .int s2, .int s3, .int s4, .int s5, .int s6], σ)).trans rfl
set_option maxRecDepth 20000 in
theorem q_70_5036 (G : Nat × (Nat → Int32)) (d : Nat) (x0 : Int32) (s0 : Int64) (σ : aH) : Lq G d M_70 (322, [some (.int x0)], [.long s0], σ) = some (.inl (some (.long s0)), σ) :=
  (aUn_eq (tkd G.1 G.2) tmi (aRun (tkd G.1 G.2) tmi tmt d) M_70 [] 1 (322, [some (.int x0)], [.long s0], σ)).trans rfl
set_option maxRecDepth 20000 in
theorem q_70_5037 (G : Nat × (Nat → Int32)) (d : Nat) (x0 : Int32) (σ : aH) : Lq G d M_70 (323, [some (.int x0)], [], σ) = Lq G d M_70 (337, [some (.int x0)], [.int (115 : Int32), .int (101 : Int32), .int (107 : Int32), .int (111 : Int32), .int (114 : Int32), .int (116 : Int32), .int (115 : Int32)], σ) :=
  (aUn_eq (tkd G.1 G.2) tmi (aRun (tkd G.1 G.2) tmi tmt d) M_70 [] 7 (323, [some (.int x0)], [], σ)).trans rfl
set_option maxRecDepth 20000 in
theorem q_70_5038 (G : Nat × (Nat → Int32)) (d : Nat) (x0 : Int32) (s0 : Int32) (s1 : Int32) (s2 : Int32) (s3 : Int32) (s4 : Int32) (s5 : Int32) (s6 : Int32) (σ : aH) : Lq G d M_70 (337, [some (.int x0)], [.int s0, .int s1, .int s2, .int s3, .int s4, .int s5, .int s6], σ) = aCL (Rn G d 71 [.int s6, .int s5, .int s4, .int s3, .int s2, .int s1, .int s0] σ) fun v2 σ1 => Lq G d M_70 (340, [some (.int x0)], [.long v2], σ1) :=
  (aUn_eq (tkd G.1 G.2) tmi (aRun (tkd G.1 G.2) tmi tmt d) M_70 [] 1 (337, [some (.int x0)], [.int s0, .int s1, .int s2, .int s3, .int s4, .int s5, .int s6], σ)).trans rfl
set_option maxRecDepth 20000 in
theorem q_70_5039 (G : Nat × (Nat → Int32)) (d : Nat) (x0 : Int32) (s0 : Int64) (σ : aH) : Lq G d M_70 (340, [some (.int x0)], [.long s0], σ) = some (.inl (some (.long s0)), σ) :=
  (aUn_eq (tkd G.1 G.2) tmi (aRun (tkd G.1 G.2) tmi tmt d) M_70 [] 1 (340, [some (.int x0)], [.long s0], σ)).trans rfl
set_option maxRecDepth 20000 in
theorem q_70_5040 (G : Nat × (Nat → Int32)) (d : Nat) (x0 : Int32) (σ : aH) : Lq G d M_70 (341, [some (.int x0)], [], σ) = Lq G d M_70 (351, [some (.int x0)], [.int (0 : Int32), .int (0 : Int32), .int (0 : Int32), .int (0 : Int32), .int (111 : Int32), .int (104 : Int32), .int (119 : Int32)], σ) :=
  (aUn_eq (tkd G.1 G.2) tmi (aRun (tkd G.1 G.2) tmi tmt d) M_70 [] 7 (341, [some (.int x0)], [], σ)).trans rfl
set_option maxRecDepth 20000 in
theorem q_70_5041 (G : Nat × (Nat → Int32)) (d : Nat) (x0 : Int32) (s0 : Int32) (s1 : Int32) (s2 : Int32) (s3 : Int32) (s4 : Int32) (s5 : Int32) (s6 : Int32) (σ : aH) : Lq G d M_70 (351, [some (.int x0)], [.int s0, .int s1, .int s2, .int s3, .int s4, .int s5, .int s6], σ) = aCL (Rn G d 71 [.int s6, .int s5, .int s4, .int s3, .int s2, .int s1, .int s0] σ) fun v2 σ1 => Lq G d M_70 (354, [some (.int x0)], [.long v2], σ1) :=
  (aUn_eq (tkd G.1 G.2) tmi (aRun (tkd G.1 G.2) tmi tmt d) M_70 [] 1 (351, [some (.int x0)], [.int s0, .int s1, .int s2, .int s3, .int s4, .int s5, .int s6], σ)).trans rfl
set_option maxRecDepth 20000 in
theorem q_70_5042 (G : Nat × (Nat → Int32)) (d : Nat) (x0 : Int32) (s0 : Int64) (σ : aH) : Lq G d M_70 (354, [some (.int x0)], [.long s0], σ) = some (.inl (some (.long s0)), σ) :=
  (aUn_eq (tkd G.1 G.2) tmi (aRun (tkd G.1 G.2) tmi tmt d) M_70 [] 1 (354, [some (.int x0)], [.long s0], σ)).trans rfl
set_option maxRecDepth 20000 in
theorem q_70_5043 (G : Nat × (Nat → Int32)) (d : Nat) (x0 : Int32) (σ : aH) : Lq G d M_70 (355, [some (.int x0)], [], σ) = Lq G d M_70 (368, [some (.int x0)], [.int (0 : Int32), .int (110 : Int32), .int (111 : Int32), .int (115 : Int32), .int (114 : Int32), .int (101 : Int32), .int (112 : Int32)], σ) :=
  (aUn_eq (tkd G.1 G.2) tmi (aRun (tkd G.1 G.2) tmi tmt d) M_70 [] 7 (355, [some (.int x0)], [], σ)).trans rfl
set_option maxRecDepth 20000 in
theorem q_70_5044 (G : Nat × (Nat → Int32)) (d : Nat) (x0 : Int32) (s0 : Int32) (s1 : Int32) (s2 : Int32) (s3 : Int32) (s4 : Int32) (s5 : Int32) (s6 : Int32) (σ : aH) : Lq G d M_70 (368, [some (.int x0)], [.int s0, .int s1, .int s2, .int s3, .int s4, .int s5, .int s6], σ) = aCL (Rn G d 71 [.int s6, .int s5, .int s4, .int s3, .int s2, .int s1, .int s0] σ) fun v2 σ1 => Lq G d M_70 (371, [some (.int x0)], [.long v2], σ1) :=
  (aUn_eq (tkd G.1 G.2) tmi (aRun (tkd G.1 G.2) tmi tmt d) M_70 [] 1 (368, [some (.int x0)], [.int s0, .int s1, .int s2, .int s3, .int s4, .int s5, .int s6], σ)).trans rfl
set_option maxRecDepth 20000 in
theorem q_70_5045 (G : Nat × (Nat → Int32)) (d : Nat) (x0 : Int32) (s0 : Int64) (σ : aH) : Lq G d M_70 (371, [some (.int x0)], [.long s0], σ) = some (.inl (some (.long s0)), σ) :=
  (aUn_eq (tkd G.1 G.2) tmi (aRun (tkd G.1 G.2) tmi tmt d) M_70 [] 1 (371, [some (.int x0)], [.long s0], σ)).trans rfl
set_option maxRecDepth 20000 in
theorem q_70_5046 (G : Nat × (Nat → Int32)) (d : Nat) (x0 : Int32) (σ : aH) : Lq G d M_70 (372, [some (.int x0)], [], σ) = Lq G d M_70 (384, [some (.int x0)], [.int (0 : Int32), .int (0 : Int32), .int (116 : Int32), .int (104 : Int32), .int (103 : Int32), .int (105 : Int32), .int (115 : Int32)], σ) :=
  (aUn_eq (tkd G.1 G.2) tmi (aRun (tkd G.1 G.2) tmi tmt d) M_70 [] 7 (372, [some (.int x0)], [], σ)).trans rfl
set_option maxRecDepth 20000 in
theorem q_70_5047 (G : Nat × (Nat → Int32)) (d : Nat) (x0 : Int32) (s0 : Int32) (s1 : Int32) (s2 : Int32) (s3 : Int32) (s4 : Int32) (s5 : Int32) (s6 : Int32) (σ : aH) : Lq G d M_70 (384, [some (.int x0)], [.int s0, .int s1, .int s2, .int s3, .int s4, .int s5, .int s6], σ) = aCL (Rn G d 71 [.int s6, .int s5, .int s4, .int s3, .int s2, .int s1, .int s0] σ) fun v2 σ1 => Lq G d M_70 (387, [some (.int x0)], [.long v2], σ1) :=
  (aUn_eq (tkd G.1 G.2) tmi (aRun (tkd G.1 G.2) tmi tmt d) M_70 [] 1 (384, [some (.int x0)], [.int s0, .int s1, .int s2, .int s3, .int s4, .int s5, .int s6], σ)).trans rfl
set_option maxRecDepth 20000 in
theorem q_70_5048 (G : Nat × (Nat → Int32)) (d : Nat) (x0 : Int32) (s0 : Int64) (σ : aH) : Lq G d M_70 (387, [some (.int x0)], [.long s0], σ) = some (.inl (some (.long s0)), σ) :=
  (aUn_eq (tkd G.1 G.2) tmi (aRun (tkd G.1 G.2) tmi tmt d) M_70 [] 1 (387, [some (.int x0)], [.long s0], σ)).trans rfl
set_option maxRecDepth 20000 in
theorem q_70_5049 (G : Nat × (Nat → Int32)) (d : Nat) (x0 : Int32) (σ : aH) : Lq G d M_70 (388, [some (.int x0)], [], σ) = Lq G d M_70 (400, [some (.int x0)], [.int (0 : Int32), .int (0 : Int32), .int (116 : Int32), .int (110 : Int32), .int (105 : Int32), .int (111 : Int32), .int (106 : Int32)], σ) :=
  (aUn_eq (tkd G.1 G.2) tmi (aRun (tkd G.1 G.2) tmi tmt d) M_70 [] 7 (388, [some (.int x0)], [], σ)).trans rfl
set_option maxRecDepth 20000 in
theorem q_70_5050 (G : Nat × (Nat → Int32)) (d : Nat) (x0 : Int32) (s0 : Int32) (s1 : Int32) (s2 : Int32) (s3 : Int32) (s4 : Int32) (s5 : Int32) (s6 : Int32) (σ : aH) : Lq G d M_70 (400, [some (.int x0)], [.int s0, .int s1, .int s2, .int s3, .int s4, .int s5, .int s6], σ) = aCL (Rn G d 71 [.int s6, .int s5, .int s4, .int s3, .int s2, .int s1, .int s0] σ) fun v2 σ1 => Lq G d M_70 (403, [some (.int x0)], [.long v2], σ1) :=
  (aUn_eq (tkd G.1 G.2) tmi (aRun (tkd G.1 G.2) tmi tmt d) M_70 [] 1 (400, [some (.int x0)], [.int s0, .int s1, .int s2, .int s3, .int s4, .int s5, .int s6], σ)).trans rfl
set_option maxRecDepth 20000 in
theorem q_70_5051 (G : Nat × (Nat → Int32)) (d : Nat) (x0 : Int32) (s0 : Int64) (σ : aH) : Lq G d M_70 (403, [some (.int x0)], [.long s0], σ) = some (.inl (some (.long s0)), σ) :=
  (aUn_eq (tkd G.1 G.2) tmi (aRun (tkd G.1 G.2) tmi tmt d) M_70 [] 1 (403, [some (.int x0)], [.long s0], σ)).trans rfl
set_option maxRecDepth 20000 in
theorem q_70_5052 (G : Nat × (Nat → Int32)) (d : Nat) (x0 : Int32) (σ : aH) : Lq G d M_70 (404, [some (.int x0)], [], σ) = Lq G d M_70 (416, [some (.int x0)], [.int (0 : Int32), .int (0 : Int32), .int (104 : Int32), .int (99 : Int32), .int (117 : Int32), .int (111 : Int32), .int (116 : Int32)], σ) :=
  (aUn_eq (tkd G.1 G.2) tmi (aRun (tkd G.1 G.2) tmi tmt d) M_70 [] 7 (404, [some (.int x0)], [], σ)).trans rfl
set_option maxRecDepth 20000 in
theorem q_70_5053 (G : Nat × (Nat → Int32)) (d : Nat) (x0 : Int32) (s0 : Int32) (s1 : Int32) (s2 : Int32) (s3 : Int32) (s4 : Int32) (s5 : Int32) (s6 : Int32) (σ : aH) : Lq G d M_70 (416, [some (.int x0)], [.int s0, .int s1, .int s2, .int s3, .int s4, .int s5, .int s6], σ) = aCL (Rn G d 71 [.int s6, .int s5, .int s4, .int s3, .int s2, .int s1, .int s0] σ) fun v2 σ1 => Lq G d M_70 (419, [some (.int x0)], [.long v2], σ1) :=
  (aUn_eq (tkd G.1 G.2) tmi (aRun (tkd G.1 G.2) tmi tmt d) M_70 [] 1 (416, [some (.int x0)], [.int s0, .int s1, .int s2, .int s3, .int s4, .int s5, .int s6], σ)).trans rfl
set_option maxRecDepth 20000 in
theorem q_70_5054 (G : Nat × (Nat → Int32)) (d : Nat) (x0 : Int32) (s0 : Int64) (σ : aH) : Lq G d M_70 (419, [some (.int x0)], [.long s0], σ) = some (.inl (some (.long s0)), σ) :=
  (aUn_eq (tkd G.1 G.2) tmi (aRun (tkd G.1 G.2) tmi tmt d) M_70 [] 1 (419, [some (.int x0)], [.long s0], σ)).trans rfl
set_option maxRecDepth 20000 in
theorem q_70_5055 (G : Nat × (Nat → Int32)) (d : Nat) (x0 : Int32) (σ : aH) : Lq G d M_70 (420, [some (.int x0)], [], σ) = Lq G d M_70 (432, [some (.int x0)], [.int (0 : Int32), .int (0 : Int32), .int (115 : Int32), .int (110 : Int32), .int (97 : Int32), .int (101 : Int32), .int (108 : Int32)], σ) :=
  (aUn_eq (tkd G.1 G.2) tmi (aRun (tkd G.1 G.2) tmi tmt d) M_70 [] 7 (420, [some (.int x0)], [], σ)).trans rfl
set_option maxRecDepth 20000 in
theorem q_70_5056 (G : Nat × (Nat → Int32)) (d : Nat) (x0 : Int32) (s0 : Int32) (s1 : Int32) (s2 : Int32) (s3 : Int32) (s4 : Int32) (s5 : Int32) (s6 : Int32) (σ : aH) : Lq G d M_70 (432, [some (.int x0)], [.int s0, .int s1, .int s2, .int s3, .int s4, .int s5, .int s6], σ) = aCL (Rn G d 71 [.int s6, .int s5, .int s4, .int s3, .int s2, .int s1, .int s0] σ) fun v2 σ1 => Lq G d M_70 (435, [some (.int x0)], [.long v2], σ1) :=
  (aUn_eq (tkd G.1 G.2) tmi (aRun (tkd G.1 G.2) tmi tmt d) M_70 [] 1 (432, [some (.int x0)], [.int s0, .int s1, .int s2, .int s3, .int s4, .int s5, .int s6], σ)).trans rfl
set_option maxRecDepth 20000 in
theorem q_70_5057 (G : Nat × (Nat → Int32)) (d : Nat) (x0 : Int32) (s0 : Int64) (σ : aH) : Lq G d M_70 (435, [some (.int x0)], [.long s0], σ) = some (.inl (some (.long s0)), σ) :=
  (aUn_eq (tkd G.1 G.2) tmi (aRun (tkd G.1 G.2) tmi tmt d) M_70 [] 1 (435, [some (.int x0)], [.long s0], σ)).trans rfl
set_option maxRecDepth 20000 in
theorem q_70_5058 (G : Nat × (Nat → Int32)) (d : Nat) (x0 : Int32) (σ : aH) : Lq G d M_70 (436, [some (.int x0)], [], σ) = Lq G d M_70 (446, [some (.int x0)], [.int (0 : Int32), .int (0 : Int32), .int (0 : Int32), .int (0 : Int32), .int (115 : Int32), .int (101 : Int32), .int (121 : Int32)], σ) :=
  (aUn_eq (tkd G.1 G.2) tmi (aRun (tkd G.1 G.2) tmi tmt d) M_70 [] 7 (436, [some (.int x0)], [], σ)).trans rfl
set_option maxRecDepth 20000 in
theorem q_70_5059 (G : Nat × (Nat → Int32)) (d : Nat) (x0 : Int32) (s0 : Int32) (s1 : Int32) (s2 : Int32) (s3 : Int32) (s4 : Int32) (s5 : Int32) (s6 : Int32) (σ : aH) : Lq G d M_70 (446, [some (.int x0)], [.int s0, .int s1, .int s2, .int s3, .int s4, .int s5, .int s6], σ) = aCL (Rn G d 71 [.int s6, .int s5, .int s4, .int s3, .int s2, .int s1, .int s0] σ) fun v2 σ1 => Lq G d M_70 (449, [some (.int x0)], [.long v2], σ1) :=
  (aUn_eq (tkd G.1 G.2) tmi (aRun (tkd G.1 G.2) tmi tmt d) M_70 [] 1 (446, [some (.int x0)], [.int s0, .int s1, .int s2, .int s3, .int s4, .int s5, .int s6], σ)).trans rfl
set_option maxRecDepth 20000 in
theorem q_70_5060 (G : Nat × (Nat → Int32)) (d : Nat) (x0 : Int32) (s0 : Int64) (σ : aH) : Lq G d M_70 (449, [some (.int x0)], [.long s0], σ) = some (.inl (some (.long s0)), σ) :=
  (aUn_eq (tkd G.1 G.2) tmi (aRun (tkd G.1 G.2) tmi tmt d) M_70 [] 1 (449, [some (.int x0)], [.long s0], σ)).trans rfl
set_option maxRecDepth 20000 in
theorem q_70_5061 (G : Nat × (Nat → Int32)) (d : Nat) (x0 : Int32) (σ : aH) : Lq G d M_70 (450, [some (.int x0)], [], σ) = Lq G d M_70 (461, [some (.int x0)], [.int (0 : Int32), .int (0 : Int32), .int (0 : Int32), .int (104 : Int32), .int (115 : Int32), .int (105 : Int32), .int (119 : Int32)], σ) :=
  (aUn_eq (tkd G.1 G.2) tmi (aRun (tkd G.1 G.2) tmi tmt d) M_70 [] 7 (450, [some (.int x0)], [], σ)).trans rfl
set_option maxRecDepth 20000 in
theorem q_70_5062 (G : Nat × (Nat → Int32)) (d : Nat) (x0 : Int32) (s0 : Int32) (s1 : Int32) (s2 : Int32) (s3 : Int32) (s4 : Int32) (s5 : Int32) (s6 : Int32) (σ : aH) : Lq G d M_70 (461, [some (.int x0)], [.int s0, .int s1, .int s2, .int s3, .int s4, .int s5, .int s6], σ) = aCL (Rn G d 71 [.int s6, .int s5, .int s4, .int s3, .int s2, .int s1, .int s0] σ) fun v2 σ1 => Lq G d M_70 (464, [some (.int x0)], [.long v2], σ1) :=
  (aUn_eq (tkd G.1 G.2) tmi (aRun (tkd G.1 G.2) tmi tmt d) M_70 [] 1 (461, [some (.int x0)], [.int s0, .int s1, .int s2, .int s3, .int s4, .int s5, .int s6], σ)).trans rfl
set_option maxRecDepth 20000 in
theorem q_70_5063 (G : Nat × (Nat → Int32)) (d : Nat) (x0 : Int32) (s0 : Int64) (σ : aH) : Lq G d M_70 (464, [some (.int x0)], [.long s0], σ) = some (.inl (some (.long s0)), σ) :=
  (aUn_eq (tkd G.1 G.2) tmi (aRun (tkd G.1 G.2) tmi tmt d) M_70 [] 1 (464, [some (.int x0)], [.long s0], σ)).trans rfl
set_option maxRecDepth 20000 in
theorem q_70_5064 (G : Nat × (Nat → Int32)) (d : Nat) (x0 : Int32) (σ : aH) : Lq G d M_70 (465, [some (.int x0)], [], σ) = Lq G d M_70 (479, [some (.int x0)], [.int (103 : Int32), .int (110 : Int32), .int (105 : Int32), .int (116 : Int32), .int (116 : Int32), .int (105 : Int32), .int (115 : Int32)], σ) :=
  (aUn_eq (tkd G.1 G.2) tmi (aRun (tkd G.1 G.2) tmi tmt d) M_70 [] 7 (465, [some (.int x0)], [], σ)).trans rfl
