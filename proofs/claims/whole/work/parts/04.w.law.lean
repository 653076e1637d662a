/-! ===== the law's unrolling, up to its loop's head (moved ahead, so that the pure part compiles without 05-12) ===== -/
def aUgW (stop : Nat) (kd : Nat → aKd) (mi : Nat → Nat × Nat × Bool × Option Nat) (run : Nat → List Value → aH → Option (aRs × aH)) (M : aMt) : Nat → Nat → aSt → Option (aSt ⊕ (aRs × aH))
  | 0, _, _ => none
  | n + 1, w, st => match aLook st.1 M.2.2.1 with
    | some (.invokestatic _, _) => match w with
      | 0 => none
      | w + 1 => aStep kd mi run M (fun r => some (.inr r)) (fun st => match Nat.beq st.1 stop with
        | true => some (.inl st)
        | false => aUgW stop kd mi run M n w st) st
    | _ => aStep kd mi run M (fun r => some (.inr r)) (fun st => match Nat.beq st.1 stop with
      | true => some (.inl st)
      | false => aUgW stop kd mi run M n w st) st
