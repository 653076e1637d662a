/-! ===== the methods in pieces, as equations (by wip/gen/emit_eqs2.py) ===== -/
set_option maxRecDepth 20000
theorem q_29_6455 (G : Nat × (Nat → Int32)) (d : Nat) (x0 : Int32) (x1 : Int32) (σ : aH) : Lq G d M_29 (16, [some (.int x0), some (.int x1), some (.float 0)], [], σ) = Lq G d M_29 (17, [some (.int x0), some (.int x1), some (.float 0)], [.int x0], σ) :=
  (aUn_eq (tkd G.1 G.2) tmi (aRun (tkd G.1 G.2) tmi tmt d) M_29 [] 1 (16, [some (.int x0), some (.int x1), some (.float 0)], [], σ)).trans rfl
theorem q_29_6456 (G : Nat × (Nat → Int32)) (d : Nat) (x0 : Int32) (x1 : Int32) (s0 : Int32) (σ : aH) : Lq G d M_29 (17, [some (.int x0), some (.int x1), some (.float 0)], [.int s0], σ) = some (.inl (some (.int s0)), σ) :=
  (aUn_eq (tkd G.1 G.2) tmi (aRun (tkd G.1 G.2) tmi tmt d) M_29 [] 1 (17, [some (.int x0), some (.int x1), some (.float 0)], [.int s0], σ)).trans rfl
