/-! ===== the methods between their cut points, as equations (by wip/gen/emit_eqs.py) ===== -/
/-- a run of a method, in this claim's tables; G: the script -/
noncomputable def Rn (G : Nat × (Nat → Int32)) (d mid : Nat) (as : List Value) (σ : aH) : Option (aRs × aH) := aRun (tkd G.1 G.2) tmi tmt d mid as σ
/-- a run of a method's body from a place of it -/
noncomputable def Lq (G : Nat × (Nat → Int32)) (d : Nat) (M : aMt) (st : aSt) : Option (aRs × aH) := aLoop (tkd G.1 G.2) tmi (aRun (tkd G.1 G.2) tmi tmt d) M st
/-- a constant array's numbers -/
def tg (i : Nat) : Nat → Int32 := match tkL[i]? with
  | some (.inr (.inr (.inl (_, _, g)))) => g
  | _ => fun _ => 0
