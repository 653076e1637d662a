/-! ===== a turn of the law's loop (moved ahead, so that the pure part compiles without 22-28) ===== -/
/-- the law's state at the loop's head -/
def lwSt (i : Nat) (σ : aH) : aSt := (23, [some (.ref 130), some (.ref 0), some (.ref 33), some (.ref 63), some (.int (Int32.ofNat i)), none, none], [], σ)
/-- a turn of the law's loop -/
noncomputable def lwTurn (G : Nat × (Nat → Int32)) (i : Nat) (σ : aH) : Option (aSt ⊕ (aRs × aH)) := aUgW 23 (tkd G.1 G.2) tmi (aRunW (tkd G.1 G.2) tmi tmt 60) M_law 200 1 (lwSt i σ)
