/-! ===== the constants at the start: static arrays and fields, texts (by wip/gen/emit_start.py) ===== -/
theorem aA_no {s : State} : ∀ a : Nat, a < s.heap.size → ¬ aA s.heap.size a := fun _ h z => Nat.not_le.mpr h z
set_option maxRecDepth 100000 in
set_option maxHeartbeats 4000000 in
theorem sa_0 {s : State} {b : Nat} (hts : ∀ w ∈ lw_tbl, w.before #[Value.ref b] s = true) (hs : ∀ c ∈ flatC (Jvm.Cond.and given_1 narrow_1), c.before #[Value.ref b] s = true) : ∃ t : Nat, va_T .int t 5 (fun j => .int (([0, 120, 240, 270, 282] : List Int32).getD j 0)) (aA s.heap.size) s s.heap ∧ va_Z "RubberHall$House" "FIRST" "[I" (.ref t) (aA s.heap.size) s s.heap := by
  obtain ⟨t, ht, hT⟩ := va_Tof (args := #[Value.ref b]) (s := s) (tm := (Term.static "RubberHall$House" "FIRST" "[I")) (ty := .int) (N := 5) (f := fun j => .int (([0, 120, 240, 270, 282] : List Int32).getD j 0)) (A := aA s.heap.size) (by decide) (hs _ (List.mem_of_getElem? (i := 5) rfl)) (va_eqt (hs _ (List.mem_of_getElem? (i := 6) rfl))) (fun j hj => by
    match j, hj with
    | 0, _ => exact va_eqt (hs _ (List.mem_of_getElem? (i := 7) rfl))
    | 1, _ => exact va_eqt (hs _ (List.mem_of_getElem? (i := 8) rfl))
    | 2, _ => exact va_eqt (hs _ (List.mem_of_getElem? (i := 9) rfl))
    | 3, _ => exact va_eqt (hs _ (List.mem_of_getElem? (i := 10) rfl))
    | 4, _ => exact va_eqt (hs _ (List.mem_of_getElem? (i := 11) rfl))
    | j + 5, h => exact absurd h (by omega)) aA_no
  exact ⟨t, hT, va_Zof (hts _ (List.mem_of_getElem? (i := 434) rfl)) (hts _ (List.mem_of_getElem? (i := 107) rfl)) ht aA_no⟩
set_option maxRecDepth 100000 in
set_option maxHeartbeats 4000000 in
theorem sa_1 {s : State} {b : Nat} (hts : ∀ w ∈ lw_tbl, w.before #[Value.ref b] s = true) (hs : ∀ c ∈ flatC (Jvm.Cond.and given_1 narrow_1), c.before #[Value.ref b] s = true) : ∃ t : Nat, va_T .int t 5 (fun j => .int (([20, 20, 6, 12, 4] : List Int32).getD j 0)) (aA s.heap.size) s s.heap ∧ va_Z "RubberHall$House" "MOST" "[I" (.ref t) (aA s.heap.size) s s.heap := by
  obtain ⟨t, ht, hT⟩ := va_Tof (args := #[Value.ref b]) (s := s) (tm := (Term.static "RubberHall$House" "MOST" "[I")) (ty := .int) (N := 5) (f := fun j => .int (([20, 20, 6, 12, 4] : List Int32).getD j 0)) (A := aA s.heap.size) (by decide) (hs _ (List.mem_of_getElem? (i := 28) rfl)) (va_eqt (hs _ (List.mem_of_getElem? (i := 29) rfl))) (fun j hj => by
    match j, hj with
    | 0, _ => exact va_eqt (hs _ (List.mem_of_getElem? (i := 30) rfl))
    | 1, _ => exact va_eqt (hs _ (List.mem_of_getElem? (i := 31) rfl))
    | 2, _ => exact va_eqt (hs _ (List.mem_of_getElem? (i := 32) rfl))
    | 3, _ => exact va_eqt (hs _ (List.mem_of_getElem? (i := 33) rfl))
    | 4, _ => exact va_eqt (hs _ (List.mem_of_getElem? (i := 34) rfl))
    | j + 5, h => exact absurd h (by omega)) aA_no
  exact ⟨t, hT, va_Zof (hts _ (List.mem_of_getElem? (i := 726) rfl)) (hts _ (List.mem_of_getElem? (i := 107) rfl)) ht aA_no⟩
set_option maxRecDepth 100000 in
set_option maxHeartbeats 4000000 in
theorem sa_2 {s : State} {b : Nat} (hts : ∀ w ∈ lw_tbl, w.before #[Value.ref b] s = true) (hs : ∀ c ∈ flatC (Jvm.Cond.and given_1 narrow_1), c.before #[Value.ref b] s = true) : ∃ t : Nat, va_T .int t 5 (fun j => .int (([6, 6, 5, 1, 1] : List Int32).getD j 0)) (aA s.heap.size) s s.heap ∧ va_Z "RubberHall$House" "WIDTH" "[I" (.ref t) (aA s.heap.size) s s.heap := by
  obtain ⟨t, ht, hT⟩ := va_Tof (args := #[Value.ref b]) (s := s) (tm := (Term.static "RubberHall$House" "WIDTH" "[I")) (ty := .int) (N := 5) (f := fun j => .int (([6, 6, 5, 1, 1] : List Int32).getD j 0)) (A := aA s.heap.size) (by decide) (hs _ (List.mem_of_getElem? (i := 13) rfl)) (va_eqt (hs _ (List.mem_of_getElem? (i := 14) rfl))) (fun j hj => by
    match j, hj with
    | 0, _ => exact va_eqt (hs _ (List.mem_of_getElem? (i := 15) rfl))
    | 1, _ => exact va_eqt (hs _ (List.mem_of_getElem? (i := 16) rfl))
    | 2, _ => exact va_eqt (hs _ (List.mem_of_getElem? (i := 17) rfl))
    | 3, _ => exact va_eqt (hs _ (List.mem_of_getElem? (i := 18) rfl))
    | 4, _ => exact va_eqt (hs _ (List.mem_of_getElem? (i := 19) rfl))
    | j + 5, h => exact absurd h (by omega)) aA_no
  exact ⟨t, hT, va_Zof (hts _ (List.mem_of_getElem? (i := 436) rfl)) (hts _ (List.mem_of_getElem? (i := 107) rfl)) ht aA_no⟩
set_option maxRecDepth 100000 in
set_option maxHeartbeats 4000000 in
theorem sa_3 {s : State} {b : Nat} (hts : ∀ w ∈ lw_tbl, w.before #[Value.ref b] s = true) (hs : ∀ c ∈ flatC (Jvm.Cond.and given_1 narrow_1), c.before #[Value.ref b] s = true) : ∃ t : Nat, va_T .int t 10 (fun j => .int (([0, 1, 2, 3, 4, 4, 5, 5, 6, 6] : List Int32).getD j 0)) (aA s.heap.size) s s.heap ∧ va_Z "RubberHall$RuleReader" "BINDS" "[I" (.ref t) (aA s.heap.size) s s.heap := by
  obtain ⟨t, ht, hT⟩ := va_Tof (args := #[Value.ref b]) (s := s) (tm := (Term.static "RubberHall$RuleReader" "BINDS" "[I")) (ty := .int) (N := 10) (f := fun j => .int (([0, 1, 2, 3, 4, 4, 5, 5, 6, 6] : List Int32).getD j 0)) (A := aA s.heap.size) (by decide) (hs _ (List.mem_of_getElem? (i := 36) rfl)) (va_eqt (hs _ (List.mem_of_getElem? (i := 37) rfl))) (fun j hj => by
    match j, hj with
    | 0, _ => exact va_eqt (hs _ (List.mem_of_getElem? (i := 38) rfl))
    | 1, _ => exact va_eqt (hs _ (List.mem_of_getElem? (i := 39) rfl))
    | 2, _ => exact va_eqt (hs _ (List.mem_of_getElem? (i := 40) rfl))
    | 3, _ => exact va_eqt (hs _ (List.mem_of_getElem? (i := 41) rfl))
    | 4, _ => exact va_eqt (hs _ (List.mem_of_getElem? (i := 42) rfl))
    | 5, _ => exact va_eqt (hs _ (List.mem_of_getElem? (i := 43) rfl))
    | 6, _ => exact va_eqt (hs _ (List.mem_of_getElem? (i := 44) rfl))
    | 7, _ => exact va_eqt (hs _ (List.mem_of_getElem? (i := 45) rfl))
    | 8, _ => exact va_eqt (hs _ (List.mem_of_getElem? (i := 46) rfl))
    | 9, _ => exact va_eqt (hs _ (List.mem_of_getElem? (i := 47) rfl))
    | j + 10, h => exact absurd h (by omega)) aA_no
  exact ⟨t, hT, va_Zof (hts _ (List.mem_of_getElem? (i := 836) rfl)) (hts _ (List.mem_of_getElem? (i := 108) rfl)) ht aA_no⟩
set_option maxRecDepth 100000 in
set_option maxHeartbeats 4000000 in
theorem sa_4 {s : State} {b : Nat} (hts : ∀ w ∈ lw_tbl, w.before #[Value.ref b] s = true) (hs : ∀ c ∈ flatC (Jvm.Cond.and given_1 narrow_1), c.before #[Value.ref b] s = true) : ∃ t : Nat, va_T .int t 16 (fun j => .int (([-3, -3, -3, -3, -3, -3, -3, -3, -3, -3, -3, -3, -999, 0, 0, -50] : List Int32).getD j 0)) (aA s.heap.size) s s.heap ∧ va_Z "RubberHall$Sheets" "LEAST" "[I" (.ref t) (aA s.heap.size) s s.heap := by
  obtain ⟨t, ht, hT⟩ := va_Tof (args := #[Value.ref b]) (s := s) (tm := (Term.static "RubberHall$Sheets" "LEAST" "[I")) (ty := .int) (N := 16) (f := fun j => .int (([-3, -3, -3, -3, -3, -3, -3, -3, -3, -3, -3, -3, -999, 0, 0, -50] : List Int32).getD j 0)) (A := aA s.heap.size) (by decide) (hs _ (List.mem_of_getElem? (i := 68) rfl)) (va_eqt (hs _ (List.mem_of_getElem? (i := 69) rfl))) (fun j hj => by
    match j, hj with
    | 0, _ => exact va_eqt (hs _ (List.mem_of_getElem? (i := 70) rfl))
    | 1, _ => exact va_eqt (hs _ (List.mem_of_getElem? (i := 71) rfl))
    | 2, _ => exact va_eqt (hs _ (List.mem_of_getElem? (i := 72) rfl))
    | 3, _ => exact va_eqt (hs _ (List.mem_of_getElem? (i := 73) rfl))
    | 4, _ => exact va_eqt (hs _ (List.mem_of_getElem? (i := 74) rfl))
    | 5, _ => exact va_eqt (hs _ (List.mem_of_getElem? (i := 75) rfl))
    | 6, _ => exact va_eqt (hs _ (List.mem_of_getElem? (i := 76) rfl))
    | 7, _ => exact va_eqt (hs _ (List.mem_of_getElem? (i := 77) rfl))
    | 8, _ => exact va_eqt (hs _ (List.mem_of_getElem? (i := 78) rfl))
    | 9, _ => exact va_eqt (hs _ (List.mem_of_getElem? (i := 79) rfl))
    | 10, _ => exact va_eqt (hs _ (List.mem_of_getElem? (i := 80) rfl))
    | 11, _ => exact va_eqt (hs _ (List.mem_of_getElem? (i := 81) rfl))
    | 12, _ => exact va_eqt (hs _ (List.mem_of_getElem? (i := 82) rfl))
    | 13, _ => exact va_eqt (hs _ (List.mem_of_getElem? (i := 83) rfl))
    | 14, _ => exact va_eqt (hs _ (List.mem_of_getElem? (i := 84) rfl))
    | 15, _ => exact va_eqt (hs _ (List.mem_of_getElem? (i := 85) rfl))
    | j + 16, h => exact absurd h (by omega)) aA_no
  exact ⟨t, hT, va_Zof (hts _ (List.mem_of_getElem? (i := 1120) rfl)) (hts _ (List.mem_of_getElem? (i := 109) rfl)) ht aA_no⟩
set_option maxRecDepth 100000 in
set_option maxHeartbeats 4000000 in
theorem sa_5 {s : State} {b : Nat} (hts : ∀ w ∈ lw_tbl, w.before #[Value.ref b] s = true) (hs : ∀ c ∈ flatC (Jvm.Cond.and given_1 narrow_1), c.before #[Value.ref b] s = true) : ∃ t : Nat, va_T .int t 16 (fun j => .int (([3, 3, 3, 3, 3, 3, 3, 3, 3, 3, 3, 3, 999, 100, 601, 50] : List Int32).getD j 0)) (aA s.heap.size) s s.heap ∧ va_Z "RubberHall$Sheets" "MOST" "[I" (.ref t) (aA s.heap.size) s s.heap := by
  obtain ⟨t, ht, hT⟩ := va_Tof (args := #[Value.ref b]) (s := s) (tm := (Term.static "RubberHall$Sheets" "MOST" "[I")) (ty := .int) (N := 16) (f := fun j => .int (([3, 3, 3, 3, 3, 3, 3, 3, 3, 3, 3, 3, 999, 100, 601, 50] : List Int32).getD j 0)) (A := aA s.heap.size) (by decide) (hs _ (List.mem_of_getElem? (i := 49) rfl)) (va_eqt (hs _ (List.mem_of_getElem? (i := 50) rfl))) (fun j hj => by
    match j, hj with
    | 0, _ => exact va_eqt (hs _ (List.mem_of_getElem? (i := 51) rfl))
    | 1, _ => exact va_eqt (hs _ (List.mem_of_getElem? (i := 52) rfl))
    | 2, _ => exact va_eqt (hs _ (List.mem_of_getElem? (i := 53) rfl))
    | 3, _ => exact va_eqt (hs _ (List.mem_of_getElem? (i := 54) rfl))
    | 4, _ => exact va_eqt (hs _ (List.mem_of_getElem? (i := 55) rfl))
    | 5, _ => exact va_eqt (hs _ (List.mem_of_getElem? (i := 56) rfl))
    | 6, _ => exact va_eqt (hs _ (List.mem_of_getElem? (i := 57) rfl))
    | 7, _ => exact va_eqt (hs _ (List.mem_of_getElem? (i := 58) rfl))
    | 8, _ => exact va_eqt (hs _ (List.mem_of_getElem? (i := 59) rfl))
    | 9, _ => exact va_eqt (hs _ (List.mem_of_getElem? (i := 60) rfl))
    | 10, _ => exact va_eqt (hs _ (List.mem_of_getElem? (i := 61) rfl))
    | 11, _ => exact va_eqt (hs _ (List.mem_of_getElem? (i := 62) rfl))
    | 12, _ => exact va_eqt (hs _ (List.mem_of_getElem? (i := 63) rfl))
    | 13, _ => exact va_eqt (hs _ (List.mem_of_getElem? (i := 64) rfl))
    | 14, _ => exact va_eqt (hs _ (List.mem_of_getElem? (i := 65) rfl))
    | 15, _ => exact va_eqt (hs _ (List.mem_of_getElem? (i := 66) rfl))
    | j + 16, h => exact absurd h (by omega)) aA_no
  exact ⟨t, hT, va_Zof (hts _ (List.mem_of_getElem? (i := 913) rfl)) (hts _ (List.mem_of_getElem? (i := 109) rfl)) ht aA_no⟩
set_option maxRecDepth 100000 in
set_option maxHeartbeats 4000000 in
theorem ss_0 {s : State} {b : Nat} (hts : ∀ w ∈ lw_tbl, w.before #[Value.ref b] s = true) (hs : ∀ c ∈ flatC (Jvm.Cond.and given_1 narrow_1), c.before #[Value.ref b] s = true) : ∃ q : Nat × Nat, vk_R "RubberHall$HouseReader" 23 "person sitting law line off" q.1 s ∧ va_O "java/lang/String" q.1 (aA s.heap.size) s s.heap ∧ va_OF "java/lang/String" "value" "[B" (.ref q.2) q.1 (aA s.heap.size) s s.heap ∧ va_OF "java/lang/String" "coder" "B" (.int 0) q.1 (aA s.heap.size) s s.heap ∧ va_T .byte q.2 27 (fun j => .int (([112, 101, 114, 115, 111, 110, 32, 115, 105, 116, 116, 105, 110, 103, 32, 108, 97, 119, 32, 108, 105, 110, 101, 32, 111, 102, 102] : List Int32).getD j 0)) (aA s.heap.size) s s.heap := by
  obtain ⟨a, c, cA, kA, q1, q2, q3, q4, q5, q6, -⟩ := Cond.exactly_spec (args := #[Value.ref b]) (first := s) (o := none) (s := s) (idx := []) (t := (Term.string "RubberHall$HouseReader" 23)) (cls := "java/lang/String") (hs _ (List.mem_of_getElem? (i := 119) rfl))
  obtain ⟨t, ht, hT⟩ := va_Tof (args := #[Value.ref b]) (s := s) (tm := Term.field (Term.string "RubberHall$HouseReader" 23) "java/lang/String" "value" "[B") (ty := .byte) (N := 27) (f := fun j => .int (([112, 101, 114, 115, 111, 110, 32, 115, 105, 116, 116, 105, 110, 103, 32, 108, 97, 119, 32, 108, 105, 110, 101, 32, 111, 102, 102] : List Int32).getD j 0)) (A := aA s.heap.size) (by decide) (hs _ (List.mem_of_getElem? (i := 121) rfl)) (va_eqt (hs _ (List.mem_of_getElem? (i := 122) rfl))) (fun j hj => by
    match j, hj with
    | 0, _ => exact va_eqt (hs _ (List.mem_of_getElem? (i := 123) rfl))
    | 1, _ => exact va_eqt (hs _ (List.mem_of_getElem? (i := 124) rfl))
    | 2, _ => exact va_eqt (hs _ (List.mem_of_getElem? (i := 125) rfl))
    | 3, _ => exact va_eqt (hs _ (List.mem_of_getElem? (i := 126) rfl))
    | 4, _ => exact va_eqt (hs _ (List.mem_of_getElem? (i := 127) rfl))
    | 5, _ => exact va_eqt (hs _ (List.mem_of_getElem? (i := 128) rfl))
    | 6, _ => exact va_eqt (hs _ (List.mem_of_getElem? (i := 129) rfl))
    | 7, _ => exact va_eqt (hs _ (List.mem_of_getElem? (i := 130) rfl))
    | 8, _ => exact va_eqt (hs _ (List.mem_of_getElem? (i := 131) rfl))
    | 9, _ => exact va_eqt (hs _ (List.mem_of_getElem? (i := 132) rfl))
    | 10, _ => exact va_eqt (hs _ (List.mem_of_getElem? (i := 133) rfl))
    | 11, _ => exact va_eqt (hs _ (List.mem_of_getElem? (i := 134) rfl))
    | 12, _ => exact va_eqt (hs _ (List.mem_of_getElem? (i := 135) rfl))
    | 13, _ => exact va_eqt (hs _ (List.mem_of_getElem? (i := 136) rfl))
    | 14, _ => exact va_eqt (hs _ (List.mem_of_getElem? (i := 137) rfl))
    | 15, _ => exact va_eqt (hs _ (List.mem_of_getElem? (i := 138) rfl))
    | 16, _ => exact va_eqt (hs _ (List.mem_of_getElem? (i := 139) rfl))
    | 17, _ => exact va_eqt (hs _ (List.mem_of_getElem? (i := 140) rfl))
    | 18, _ => exact va_eqt (hs _ (List.mem_of_getElem? (i := 141) rfl))
    | 19, _ => exact va_eqt (hs _ (List.mem_of_getElem? (i := 142) rfl))
    | 20, _ => exact va_eqt (hs _ (List.mem_of_getElem? (i := 143) rfl))
    | 21, _ => exact va_eqt (hs _ (List.mem_of_getElem? (i := 144) rfl))
    | 22, _ => exact va_eqt (hs _ (List.mem_of_getElem? (i := 145) rfl))
    | 23, _ => exact va_eqt (hs _ (List.mem_of_getElem? (i := 146) rfl))
    | 24, _ => exact va_eqt (hs _ (List.mem_of_getElem? (i := 147) rfl))
    | 25, _ => exact va_eqt (hs _ (List.mem_of_getElem? (i := 148) rfl))
    | 26, _ => exact va_eqt (hs _ (List.mem_of_getElem? (i := 149) rfl))
    | j + 27, h => exact absurd h (by omega)) aA_no
  exact ⟨(a, t), vk_R.of (hts _ (List.mem_of_getElem? (i := 691) rfl)) q1, ⟨cA, q3, q5, by rw [q6]; exact q2, aA_no a (Array.getElem?_eq_some_iff.mp q3).1⟩, vk_OFof q1 ht aA_no, vk_OFof q1 (va_eqt (hs _ (List.mem_of_getElem? (i := 120) rfl))) aA_no, hT⟩
set_option maxRecDepth 100000 in
set_option maxHeartbeats 4000000 in
theorem ss_1 {s : State} {b : Nat} (hts : ∀ w ∈ lw_tbl, w.before #[Value.ref b] s = true) (hs : ∀ c ∈ flatC (Jvm.Cond.and given_1 narrow_1), c.before #[Value.ref b] s = true) : ∃ q : Nat × Nat, vk_R "RubberHall$HouseReader" 52 "felt said" q.1 s ∧ va_O "java/lang/String" q.1 (aA s.heap.size) s s.heap ∧ va_OF "java/lang/String" "value" "[B" (.ref q.2) q.1 (aA s.heap.size) s s.heap ∧ va_OF "java/lang/String" "coder" "B" (.int 0) q.1 (aA s.heap.size) s s.heap ∧ va_T .byte q.2 9 (fun j => .int (([102, 101, 108, 116, 32, 115, 97, 105, 100] : List Int32).getD j 0)) (aA s.heap.size) s s.heap := by
  obtain ⟨a, c, cA, kA, q1, q2, q3, q4, q5, q6, -⟩ := Cond.exactly_spec (args := #[Value.ref b]) (first := s) (o := none) (s := s) (idx := []) (t := (Term.string "RubberHall$HouseReader" 52)) (cls := "java/lang/String") (hs _ (List.mem_of_getElem? (i := 317) rfl))
  obtain ⟨t, ht, hT⟩ := va_Tof (args := #[Value.ref b]) (s := s) (tm := Term.field (Term.string "RubberHall$HouseReader" 52) "java/lang/String" "value" "[B") (ty := .byte) (N := 9) (f := fun j => .int (([102, 101, 108, 116, 32, 115, 97, 105, 100] : List Int32).getD j 0)) (A := aA s.heap.size) (by decide) (hs _ (List.mem_of_getElem? (i := 319) rfl)) (va_eqt (hs _ (List.mem_of_getElem? (i := 320) rfl))) (fun j hj => by
    match j, hj with
    | 0, _ => exact va_eqt (hs _ (List.mem_of_getElem? (i := 321) rfl))
    | 1, _ => exact va_eqt (hs _ (List.mem_of_getElem? (i := 322) rfl))
    | 2, _ => exact va_eqt (hs _ (List.mem_of_getElem? (i := 323) rfl))
    | 3, _ => exact va_eqt (hs _ (List.mem_of_getElem? (i := 324) rfl))
    | 4, _ => exact va_eqt (hs _ (List.mem_of_getElem? (i := 325) rfl))
    | 5, _ => exact va_eqt (hs _ (List.mem_of_getElem? (i := 326) rfl))
    | 6, _ => exact va_eqt (hs _ (List.mem_of_getElem? (i := 327) rfl))
    | 7, _ => exact va_eqt (hs _ (List.mem_of_getElem? (i := 328) rfl))
    | 8, _ => exact va_eqt (hs _ (List.mem_of_getElem? (i := 329) rfl))
    | j + 9, h => exact absurd h (by omega)) aA_no
  exact ⟨(a, t), vk_R.of (hts _ (List.mem_of_getElem? (i := 786) rfl)) q1, ⟨cA, q3, q5, by rw [q6]; exact q2, aA_no a (Array.getElem?_eq_some_iff.mp q3).1⟩, vk_OFof q1 ht aA_no, vk_OFof q1 (va_eqt (hs _ (List.mem_of_getElem? (i := 318) rfl))) aA_no, hT⟩
set_option maxRecDepth 100000 in
set_option maxHeartbeats 4000000 in
theorem ss_2 {s : State} {b : Nat} (hts : ∀ w ∈ lw_tbl, w.before #[Value.ref b] s = true) (hs : ∀ c ∈ flatC (Jvm.Cond.and given_1 narrow_1), c.before #[Value.ref b] s = true) : ∃ q : Nat × Nat, vk_R "RubberHall$HouseReader" 75 "sight" q.1 s ∧ va_O "java/lang/String" q.1 (aA s.heap.size) s s.heap ∧ va_OF "java/lang/String" "value" "[B" (.ref q.2) q.1 (aA s.heap.size) s s.heap ∧ va_OF "java/lang/String" "coder" "B" (.int 0) q.1 (aA s.heap.size) s s.heap ∧ va_T .byte q.2 5 (fun j => .int (([115, 105, 103, 104, 116] : List Int32).getD j 0)) (aA s.heap.size) s s.heap := by
  obtain ⟨a, c, cA, kA, q1, q2, q3, q4, q5, q6, -⟩ := Cond.exactly_spec (args := #[Value.ref b]) (first := s) (o := none) (s := s) (idx := []) (t := (Term.string "RubberHall$HouseReader" 75)) (cls := "java/lang/String") (hs _ (List.mem_of_getElem? (i := 150) rfl))
  obtain ⟨t, ht, hT⟩ := va_Tof (args := #[Value.ref b]) (s := s) (tm := Term.field (Term.string "RubberHall$HouseReader" 75) "java/lang/String" "value" "[B") (ty := .byte) (N := 5) (f := fun j => .int (([115, 105, 103, 104, 116] : List Int32).getD j 0)) (A := aA s.heap.size) (by decide) (hs _ (List.mem_of_getElem? (i := 152) rfl)) (va_eqt (hs _ (List.mem_of_getElem? (i := 153) rfl))) (fun j hj => by
    match j, hj with
    | 0, _ => exact va_eqt (hs _ (List.mem_of_getElem? (i := 154) rfl))
    | 1, _ => exact va_eqt (hs _ (List.mem_of_getElem? (i := 155) rfl))
    | 2, _ => exact va_eqt (hs _ (List.mem_of_getElem? (i := 156) rfl))
    | 3, _ => exact va_eqt (hs _ (List.mem_of_getElem? (i := 157) rfl))
    | 4, _ => exact va_eqt (hs _ (List.mem_of_getElem? (i := 158) rfl))
    | j + 5, h => exact absurd h (by omega)) aA_no
  exact ⟨(a, t), vk_R.of (hts _ (List.mem_of_getElem? (i := 731) rfl)) q1, ⟨cA, q3, q5, by rw [q6]; exact q2, aA_no a (Array.getElem?_eq_some_iff.mp q3).1⟩, vk_OFof q1 ht aA_no, vk_OFof q1 (va_eqt (hs _ (List.mem_of_getElem? (i := 151) rfl))) aA_no, hT⟩
set_option maxRecDepth 100000 in
set_option maxHeartbeats 4000000 in
theorem ss_3 {s : State} {b : Nat} (hts : ∀ w ∈ lw_tbl, w.before #[Value.ref b] s = true) (hs : ∀ c ∈ flatC (Jvm.Cond.and given_1 narrow_1), c.before #[Value.ref b] s = true) : ∃ q : Nat × Nat, vk_R "RubberHall$HouseReader" 81 "joint" q.1 s ∧ va_O "java/lang/String" q.1 (aA s.heap.size) s s.heap ∧ va_OF "java/lang/String" "value" "[B" (.ref q.2) q.1 (aA s.heap.size) s s.heap ∧ va_OF "java/lang/String" "coder" "B" (.int 0) q.1 (aA s.heap.size) s s.heap ∧ va_T .byte q.2 5 (fun j => .int (([106, 111, 105, 110, 116] : List Int32).getD j 0)) (aA s.heap.size) s s.heap := by
  obtain ⟨a, c, cA, kA, q1, q2, q3, q4, q5, q6, -⟩ := Cond.exactly_spec (args := #[Value.ref b]) (first := s) (o := none) (s := s) (idx := []) (t := (Term.string "RubberHall$HouseReader" 81)) (cls := "java/lang/String") (hs _ (List.mem_of_getElem? (i := 159) rfl))
  obtain ⟨t, ht, hT⟩ := va_Tof (args := #[Value.ref b]) (s := s) (tm := Term.field (Term.string "RubberHall$HouseReader" 81) "java/lang/String" "value" "[B") (ty := .byte) (N := 5) (f := fun j => .int (([106, 111, 105, 110, 116] : List Int32).getD j 0)) (A := aA s.heap.size) (by decide) (hs _ (List.mem_of_getElem? (i := 161) rfl)) (va_eqt (hs _ (List.mem_of_getElem? (i := 162) rfl))) (fun j hj => by
    match j, hj with
    | 0, _ => exact va_eqt (hs _ (List.mem_of_getElem? (i := 163) rfl))
    | 1, _ => exact va_eqt (hs _ (List.mem_of_getElem? (i := 164) rfl))
    | 2, _ => exact va_eqt (hs _ (List.mem_of_getElem? (i := 165) rfl))
    | 3, _ => exact va_eqt (hs _ (List.mem_of_getElem? (i := 166) rfl))
    | 4, _ => exact va_eqt (hs _ (List.mem_of_getElem? (i := 167) rfl))
    | j + 5, h => exact absurd h (by omega)) aA_no
  exact ⟨(a, t), vk_R.of (hts _ (List.mem_of_getElem? (i := 750) rfl)) q1, ⟨cA, q3, q5, by rw [q6]; exact q2, aA_no a (Array.getElem?_eq_some_iff.mp q3).1⟩, vk_OFof q1 ht aA_no, vk_OFof q1 (va_eqt (hs _ (List.mem_of_getElem? (i := 160) rfl))) aA_no, hT⟩
set_option maxRecDepth 100000 in
set_option maxHeartbeats 4000000 in
theorem ss_4 {s : State} {b : Nat} (hts : ∀ w ∈ lw_tbl, w.before #[Value.ref b] s = true) (hs : ∀ c ∈ flatC (Jvm.Cond.and given_1 narrow_1), c.before #[Value.ref b] s = true) : ∃ q : Nat × Nat, vk_R "RubberHall$HouseReader" 83 "touch" q.1 s ∧ va_O "java/lang/String" q.1 (aA s.heap.size) s s.heap ∧ va_OF "java/lang/String" "value" "[B" (.ref q.2) q.1 (aA s.heap.size) s s.heap ∧ va_OF "java/lang/String" "coder" "B" (.int 0) q.1 (aA s.heap.size) s s.heap ∧ va_T .byte q.2 5 (fun j => .int (([116, 111, 117, 99, 104] : List Int32).getD j 0)) (aA s.heap.size) s s.heap := by
  obtain ⟨a, c, cA, kA, q1, q2, q3, q4, q5, q6, -⟩ := Cond.exactly_spec (args := #[Value.ref b]) (first := s) (o := none) (s := s) (idx := []) (t := (Term.string "RubberHall$HouseReader" 83)) (cls := "java/lang/String") (hs _ (List.mem_of_getElem? (i := 168) rfl))
  obtain ⟨t, ht, hT⟩ := va_Tof (args := #[Value.ref b]) (s := s) (tm := Term.field (Term.string "RubberHall$HouseReader" 83) "java/lang/String" "value" "[B") (ty := .byte) (N := 5) (f := fun j => .int (([116, 111, 117, 99, 104] : List Int32).getD j 0)) (A := aA s.heap.size) (by decide) (hs _ (List.mem_of_getElem? (i := 170) rfl)) (va_eqt (hs _ (List.mem_of_getElem? (i := 171) rfl))) (fun j hj => by
    match j, hj with
    | 0, _ => exact va_eqt (hs _ (List.mem_of_getElem? (i := 172) rfl))
    | 1, _ => exact va_eqt (hs _ (List.mem_of_getElem? (i := 173) rfl))
    | 2, _ => exact va_eqt (hs _ (List.mem_of_getElem? (i := 174) rfl))
    | 3, _ => exact va_eqt (hs _ (List.mem_of_getElem? (i := 175) rfl))
    | 4, _ => exact va_eqt (hs _ (List.mem_of_getElem? (i := 176) rfl))
    | j + 5, h => exact absurd h (by omega)) aA_no
  exact ⟨(a, t), vk_R.of (hts _ (List.mem_of_getElem? (i := 751) rfl)) q1, ⟨cA, q3, q5, by rw [q6]; exact q2, aA_no a (Array.getElem?_eq_some_iff.mp q3).1⟩, vk_OFof q1 ht aA_no, vk_OFof q1 (va_eqt (hs _ (List.mem_of_getElem? (i := 169) rfl))) aA_no, hT⟩
set_option maxRecDepth 100000 in
set_option maxHeartbeats 4000000 in
theorem ss_5 {s : State} {b : Nat} (hts : ∀ w ∈ lw_tbl, w.before #[Value.ref b] s = true) (hs : ∀ c ∈ flatC (Jvm.Cond.and given_1 narrow_1), c.before #[Value.ref b] s = true) : ∃ q : Nat × Nat, vk_R "RubberHall$HouseReader" 85 "leans" q.1 s ∧ va_O "java/lang/String" q.1 (aA s.heap.size) s s.heap ∧ va_OF "java/lang/String" "value" "[B" (.ref q.2) q.1 (aA s.heap.size) s s.heap ∧ va_OF "java/lang/String" "coder" "B" (.int 0) q.1 (aA s.heap.size) s s.heap ∧ va_T .byte q.2 5 (fun j => .int (([108, 101, 97, 110, 115] : List Int32).getD j 0)) (aA s.heap.size) s s.heap := by
  obtain ⟨a, c, cA, kA, q1, q2, q3, q4, q5, q6, -⟩ := Cond.exactly_spec (args := #[Value.ref b]) (first := s) (o := none) (s := s) (idx := []) (t := (Term.string "RubberHall$HouseReader" 85)) (cls := "java/lang/String") (hs _ (List.mem_of_getElem? (i := 177) rfl))
  obtain ⟨t, ht, hT⟩ := va_Tof (args := #[Value.ref b]) (s := s) (tm := Term.field (Term.string "RubberHall$HouseReader" 85) "java/lang/String" "value" "[B") (ty := .byte) (N := 5) (f := fun j => .int (([108, 101, 97, 110, 115] : List Int32).getD j 0)) (A := aA s.heap.size) (by decide) (hs _ (List.mem_of_getElem? (i := 179) rfl)) (va_eqt (hs _ (List.mem_of_getElem? (i := 180) rfl))) (fun j hj => by
    match j, hj with
    | 0, _ => exact va_eqt (hs _ (List.mem_of_getElem? (i := 181) rfl))
    | 1, _ => exact va_eqt (hs _ (List.mem_of_getElem? (i := 182) rfl))
    | 2, _ => exact va_eqt (hs _ (List.mem_of_getElem? (i := 183) rfl))
    | 3, _ => exact va_eqt (hs _ (List.mem_of_getElem? (i := 184) rfl))
    | 4, _ => exact va_eqt (hs _ (List.mem_of_getElem? (i := 185) rfl))
    | j + 5, h => exact absurd h (by omega)) aA_no
  exact ⟨(a, t), vk_R.of (hts _ (List.mem_of_getElem? (i := 752) rfl)) q1, ⟨cA, q3, q5, by rw [q6]; exact q2, aA_no a (Array.getElem?_eq_some_iff.mp q3).1⟩, vk_OFof q1 ht aA_no, vk_OFof q1 (va_eqt (hs _ (List.mem_of_getElem? (i := 178) rfl))) aA_no, hT⟩
set_option maxRecDepth 100000 in
set_option maxHeartbeats 4000000 in
theorem ss_6 {s : State} {b : Nat} (hts : ∀ w ∈ lw_tbl, w.before #[Value.ref b] s = true) (hs : ∀ c ∈ flatC (Jvm.Cond.and given_1 narrow_1), c.before #[Value.ref b] s = true) : ∃ q : Nat × Nat, vk_R "RubberHall$HouseReader" 87 "yes" q.1 s ∧ va_O "java/lang/String" q.1 (aA s.heap.size) s s.heap ∧ va_OF "java/lang/String" "value" "[B" (.ref q.2) q.1 (aA s.heap.size) s s.heap ∧ va_OF "java/lang/String" "coder" "B" (.int 0) q.1 (aA s.heap.size) s s.heap ∧ va_T .byte q.2 3 (fun j => .int (([121, 101, 115] : List Int32).getD j 0)) (aA s.heap.size) s s.heap := by
  obtain ⟨a, c, cA, kA, q1, q2, q3, q4, q5, q6, -⟩ := Cond.exactly_spec (args := #[Value.ref b]) (first := s) (o := none) (s := s) (idx := []) (t := (Term.string "RubberHall$HouseReader" 87)) (cls := "java/lang/String") (hs _ (List.mem_of_getElem? (i := 186) rfl))
  obtain ⟨t, ht, hT⟩ := va_Tof (args := #[Value.ref b]) (s := s) (tm := Term.field (Term.string "RubberHall$HouseReader" 87) "java/lang/String" "value" "[B") (ty := .byte) (N := 3) (f := fun j => .int (([121, 101, 115] : List Int32).getD j 0)) (A := aA s.heap.size) (by decide) (hs _ (List.mem_of_getElem? (i := 188) rfl)) (va_eqt (hs _ (List.mem_of_getElem? (i := 189) rfl))) (fun j hj => by
    match j, hj with
    | 0, _ => exact va_eqt (hs _ (List.mem_of_getElem? (i := 190) rfl))
    | 1, _ => exact va_eqt (hs _ (List.mem_of_getElem? (i := 191) rfl))
    | 2, _ => exact va_eqt (hs _ (List.mem_of_getElem? (i := 192) rfl))
    | j + 3, h => exact absurd h (by omega)) aA_no
  exact ⟨(a, t), vk_R.of (hts _ (List.mem_of_getElem? (i := 753) rfl)) q1, ⟨cA, q3, q5, by rw [q6]; exact q2, aA_no a (Array.getElem?_eq_some_iff.mp q3).1⟩, vk_OFof q1 ht aA_no, vk_OFof q1 (va_eqt (hs _ (List.mem_of_getElem? (i := 187) rfl))) aA_no, hT⟩
set_option maxRecDepth 100000 in
set_option maxHeartbeats 4000000 in
theorem ss_7 {s : State} {b : Nat} (hts : ∀ w ∈ lw_tbl, w.before #[Value.ref b] s = true) (hs : ∀ c ∈ flatC (Jvm.Cond.and given_1 narrow_1), c.before #[Value.ref b] s = true) : ∃ q : Nat × Nat, vk_R "RubberHall$HouseReader" 93 "wish" q.1 s ∧ va_O "java/lang/String" q.1 (aA s.heap.size) s s.heap ∧ va_OF "java/lang/String" "value" "[B" (.ref q.2) q.1 (aA s.heap.size) s s.heap ∧ va_OF "java/lang/String" "coder" "B" (.int 0) q.1 (aA s.heap.size) s s.heap ∧ va_T .byte q.2 4 (fun j => .int (([119, 105, 115, 104] : List Int32).getD j 0)) (aA s.heap.size) s s.heap := by
  obtain ⟨a, c, cA, kA, q1, q2, q3, q4, q5, q6, -⟩ := Cond.exactly_spec (args := #[Value.ref b]) (first := s) (o := none) (s := s) (idx := []) (t := (Term.string "RubberHall$HouseReader" 93)) (cls := "java/lang/String") (hs _ (List.mem_of_getElem? (i := 193) rfl))
  obtain ⟨t, ht, hT⟩ := va_Tof (args := #[Value.ref b]) (s := s) (tm := Term.field (Term.string "RubberHall$HouseReader" 93) "java/lang/String" "value" "[B") (ty := .byte) (N := 4) (f := fun j => .int (([119, 105, 115, 104] : List Int32).getD j 0)) (A := aA s.heap.size) (by decide) (hs _ (List.mem_of_getElem? (i := 195) rfl)) (va_eqt (hs _ (List.mem_of_getElem? (i := 196) rfl))) (fun j hj => by
    match j, hj with
    | 0, _ => exact va_eqt (hs _ (List.mem_of_getElem? (i := 197) rfl))
    | 1, _ => exact va_eqt (hs _ (List.mem_of_getElem? (i := 198) rfl))
    | 2, _ => exact va_eqt (hs _ (List.mem_of_getElem? (i := 199) rfl))
    | 3, _ => exact va_eqt (hs _ (List.mem_of_getElem? (i := 200) rfl))
    | j + 4, h => exact absurd h (by omega)) aA_no
  exact ⟨(a, t), vk_R.of (hts _ (List.mem_of_getElem? (i := 762) rfl)) q1, ⟨cA, q3, q5, by rw [q6]; exact q2, aA_no a (Array.getElem?_eq_some_iff.mp q3).1⟩, vk_OFof q1 ht aA_no, vk_OFof q1 (va_eqt (hs _ (List.mem_of_getElem? (i := 194) rfl))) aA_no, hT⟩
set_option maxRecDepth 100000 in
set_option maxHeartbeats 4000000 in
theorem ss_8 {s : State} {b : Nat} (hts : ∀ w ∈ lw_tbl, w.before #[Value.ref b] s = true) (hs : ∀ c ∈ flatC (Jvm.Cond.and given_1 narrow_1), c.before #[Value.ref b] s = true) : ∃ q : Nat × Nat, vk_R "RubberHall$HouseReader" 95 "far" q.1 s ∧ va_O "java/lang/String" q.1 (aA s.heap.size) s s.heap ∧ va_OF "java/lang/String" "value" "[B" (.ref q.2) q.1 (aA s.heap.size) s s.heap ∧ va_OF "java/lang/String" "coder" "B" (.int 0) q.1 (aA s.heap.size) s s.heap ∧ va_T .byte q.2 3 (fun j => .int (([102, 97, 114] : List Int32).getD j 0)) (aA s.heap.size) s s.heap := by
  obtain ⟨a, c, cA, kA, q1, q2, q3, q4, q5, q6, -⟩ := Cond.exactly_spec (args := #[Value.ref b]) (first := s) (o := none) (s := s) (idx := []) (t := (Term.string "RubberHall$HouseReader" 95)) (cls := "java/lang/String") (hs _ (List.mem_of_getElem? (i := 201) rfl))
  obtain ⟨t, ht, hT⟩ := va_Tof (args := #[Value.ref b]) (s := s) (tm := Term.field (Term.string "RubberHall$HouseReader" 95) "java/lang/String" "value" "[B") (ty := .byte) (N := 3) (f := fun j => .int (([102, 97, 114] : List Int32).getD j 0)) (A := aA s.heap.size) (by decide) (hs _ (List.mem_of_getElem? (i := 203) rfl)) (va_eqt (hs _ (List.mem_of_getElem? (i := 204) rfl))) (fun j hj => by
    match j, hj with
    | 0, _ => exact va_eqt (hs _ (List.mem_of_getElem? (i := 205) rfl))
    | 1, _ => exact va_eqt (hs _ (List.mem_of_getElem? (i := 206) rfl))
    | 2, _ => exact va_eqt (hs _ (List.mem_of_getElem? (i := 207) rfl))
    | j + 3, h => exact absurd h (by omega)) aA_no
  exact ⟨(a, t), vk_R.of (hts _ (List.mem_of_getElem? (i := 766) rfl)) q1, ⟨cA, q3, q5, by rw [q6]; exact q2, aA_no a (Array.getElem?_eq_some_iff.mp q3).1⟩, vk_OFof q1 ht aA_no, vk_OFof q1 (va_eqt (hs _ (List.mem_of_getElem? (i := 202) rfl))) aA_no, hT⟩
set_option maxRecDepth 100000 in
set_option maxHeartbeats 4000000 in
theorem ss_9 {s : State} {b : Nat} (hts : ∀ w ∈ lw_tbl, w.before #[Value.ref b] s = true) (hs : ∀ c ∈ flatC (Jvm.Cond.and given_1 narrow_1), c.before #[Value.ref b] s = true) : ∃ q : Nat × Nat, vk_R "RubberHall$HouseReader" 97 "late" q.1 s ∧ va_O "java/lang/String" q.1 (aA s.heap.size) s s.heap ∧ va_OF "java/lang/String" "value" "[B" (.ref q.2) q.1 (aA s.heap.size) s s.heap ∧ va_OF "java/lang/String" "coder" "B" (.int 0) q.1 (aA s.heap.size) s s.heap ∧ va_T .byte q.2 4 (fun j => .int (([108, 97, 116, 101] : List Int32).getD j 0)) (aA s.heap.size) s s.heap := by
  obtain ⟨a, c, cA, kA, q1, q2, q3, q4, q5, q6, -⟩ := Cond.exactly_spec (args := #[Value.ref b]) (first := s) (o := none) (s := s) (idx := []) (t := (Term.string "RubberHall$HouseReader" 97)) (cls := "java/lang/String") (hs _ (List.mem_of_getElem? (i := 208) rfl))
  obtain ⟨t, ht, hT⟩ := va_Tof (args := #[Value.ref b]) (s := s) (tm := Term.field (Term.string "RubberHall$HouseReader" 97) "java/lang/String" "value" "[B") (ty := .byte) (N := 4) (f := fun j => .int (([108, 97, 116, 101] : List Int32).getD j 0)) (A := aA s.heap.size) (by decide) (hs _ (List.mem_of_getElem? (i := 210) rfl)) (va_eqt (hs _ (List.mem_of_getElem? (i := 211) rfl))) (fun j hj => by
    match j, hj with
    | 0, _ => exact va_eqt (hs _ (List.mem_of_getElem? (i := 212) rfl))
    | 1, _ => exact va_eqt (hs _ (List.mem_of_getElem? (i := 213) rfl))
    | 2, _ => exact va_eqt (hs _ (List.mem_of_getElem? (i := 214) rfl))
    | 3, _ => exact va_eqt (hs _ (List.mem_of_getElem? (i := 215) rfl))
    | j + 4, h => exact absurd h (by omega)) aA_no
  exact ⟨(a, t), vk_R.of (hts _ (List.mem_of_getElem? (i := 767) rfl)) q1, ⟨cA, q3, q5, by rw [q6]; exact q2, aA_no a (Array.getElem?_eq_some_iff.mp q3).1⟩, vk_OFof q1 ht aA_no, vk_OFof q1 (va_eqt (hs _ (List.mem_of_getElem? (i := 209) rfl))) aA_no, hT⟩
set_option maxRecDepth 100000 in
set_option maxHeartbeats 4000000 in
theorem ss_10 {s : State} {b : Nat} (hts : ∀ w ∈ lw_tbl, w.before #[Value.ref b] s = true) (hs : ∀ c ∈ flatC (Jvm.Cond.and given_1 narrow_1), c.before #[Value.ref b] s = true) : ∃ q : Nat × Nat, vk_R "RubberHall$HouseReader" 99 "turned aside" q.1 s ∧ va_O "java/lang/String" q.1 (aA s.heap.size) s s.heap ∧ va_OF "java/lang/String" "value" "[B" (.ref q.2) q.1 (aA s.heap.size) s s.heap ∧ va_OF "java/lang/String" "coder" "B" (.int 0) q.1 (aA s.heap.size) s s.heap ∧ va_T .byte q.2 12 (fun j => .int (([116, 117, 114, 110, 101, 100, 32, 97, 115, 105, 100, 101] : List Int32).getD j 0)) (aA s.heap.size) s s.heap := by
  obtain ⟨a, c, cA, kA, q1, q2, q3, q4, q5, q6, -⟩ := Cond.exactly_spec (args := #[Value.ref b]) (first := s) (o := none) (s := s) (idx := []) (t := (Term.string "RubberHall$HouseReader" 99)) (cls := "java/lang/String") (hs _ (List.mem_of_getElem? (i := 216) rfl))
  obtain ⟨t, ht, hT⟩ := va_Tof (args := #[Value.ref b]) (s := s) (tm := Term.field (Term.string "RubberHall$HouseReader" 99) "java/lang/String" "value" "[B") (ty := .byte) (N := 12) (f := fun j => .int (([116, 117, 114, 110, 101, 100, 32, 97, 115, 105, 100, 101] : List Int32).getD j 0)) (A := aA s.heap.size) (by decide) (hs _ (List.mem_of_getElem? (i := 218) rfl)) (va_eqt (hs _ (List.mem_of_getElem? (i := 219) rfl))) (fun j hj => by
    match j, hj with
    | 0, _ => exact va_eqt (hs _ (List.mem_of_getElem? (i := 220) rfl))
    | 1, _ => exact va_eqt (hs _ (List.mem_of_getElem? (i := 221) rfl))
    | 2, _ => exact va_eqt (hs _ (List.mem_of_getElem? (i := 222) rfl))
    | 3, _ => exact va_eqt (hs _ (List.mem_of_getElem? (i := 223) rfl))
    | 4, _ => exact va_eqt (hs _ (List.mem_of_getElem? (i := 224) rfl))
    | 5, _ => exact va_eqt (hs _ (List.mem_of_getElem? (i := 225) rfl))
    | 6, _ => exact va_eqt (hs _ (List.mem_of_getElem? (i := 226) rfl))
    | 7, _ => exact va_eqt (hs _ (List.mem_of_getElem? (i := 227) rfl))
    | 8, _ => exact va_eqt (hs _ (List.mem_of_getElem? (i := 228) rfl))
    | 9, _ => exact va_eqt (hs _ (List.mem_of_getElem? (i := 229) rfl))
    | 10, _ => exact va_eqt (hs _ (List.mem_of_getElem? (i := 230) rfl))
    | 11, _ => exact va_eqt (hs _ (List.mem_of_getElem? (i := 231) rfl))
    | j + 12, h => exact absurd h (by omega)) aA_no
  exact ⟨(a, t), vk_R.of (hts _ (List.mem_of_getElem? (i := 768) rfl)) q1, ⟨cA, q3, q5, by rw [q6]; exact q2, aA_no a (Array.getElem?_eq_some_iff.mp q3).1⟩, vk_OFof q1 ht aA_no, vk_OFof q1 (va_eqt (hs _ (List.mem_of_getElem? (i := 217) rfl))) aA_no, hT⟩
set_option maxRecDepth 100000 in
set_option maxHeartbeats 4000000 in
theorem ss_11 {s : State} {b : Nat} (hts : ∀ w ∈ lw_tbl, w.before #[Value.ref b] s = true) (hs : ∀ c ∈ flatC (Jvm.Cond.and given_1 narrow_1), c.before #[Value.ref b] s = true) : ∃ q : Nat × Nat, vk_R "RubberHall$HouseReader" 104 "stick top" q.1 s ∧ va_O "java/lang/String" q.1 (aA s.heap.size) s s.heap ∧ va_OF "java/lang/String" "value" "[B" (.ref q.2) q.1 (aA s.heap.size) s s.heap ∧ va_OF "java/lang/String" "coder" "B" (.int 0) q.1 (aA s.heap.size) s s.heap ∧ va_T .byte q.2 9 (fun j => .int (([115, 116, 105, 99, 107, 32, 116, 111, 112] : List Int32).getD j 0)) (aA s.heap.size) s s.heap := by
  obtain ⟨a, c, cA, kA, q1, q2, q3, q4, q5, q6, -⟩ := Cond.exactly_spec (args := #[Value.ref b]) (first := s) (o := none) (s := s) (idx := []) (t := (Term.string "RubberHall$HouseReader" 104)) (cls := "java/lang/String") (hs _ (List.mem_of_getElem? (i := 232) rfl))
  obtain ⟨t, ht, hT⟩ := va_Tof (args := #[Value.ref b]) (s := s) (tm := Term.field (Term.string "RubberHall$HouseReader" 104) "java/lang/String" "value" "[B") (ty := .byte) (N := 9) (f := fun j => .int (([115, 116, 105, 99, 107, 32, 116, 111, 112] : List Int32).getD j 0)) (A := aA s.heap.size) (by decide) (hs _ (List.mem_of_getElem? (i := 234) rfl)) (va_eqt (hs _ (List.mem_of_getElem? (i := 235) rfl))) (fun j hj => by
    match j, hj with
    | 0, _ => exact va_eqt (hs _ (List.mem_of_getElem? (i := 236) rfl))
    | 1, _ => exact va_eqt (hs _ (List.mem_of_getElem? (i := 237) rfl))
    | 2, _ => exact va_eqt (hs _ (List.mem_of_getElem? (i := 238) rfl))
    | 3, _ => exact va_eqt (hs _ (List.mem_of_getElem? (i := 239) rfl))
    | 4, _ => exact va_eqt (hs _ (List.mem_of_getElem? (i := 240) rfl))
    | 5, _ => exact va_eqt (hs _ (List.mem_of_getElem? (i := 241) rfl))
    | 6, _ => exact va_eqt (hs _ (List.mem_of_getElem? (i := 242) rfl))
    | 7, _ => exact va_eqt (hs _ (List.mem_of_getElem? (i := 243) rfl))
    | 8, _ => exact va_eqt (hs _ (List.mem_of_getElem? (i := 244) rfl))
    | j + 9, h => exact absurd h (by omega)) aA_no
  exact ⟨(a, t), vk_R.of (hts _ (List.mem_of_getElem? (i := 773) rfl)) q1, ⟨cA, q3, q5, by rw [q6]; exact q2, aA_no a (Array.getElem?_eq_some_iff.mp q3).1⟩, vk_OFof q1 ht aA_no, vk_OFof q1 (va_eqt (hs _ (List.mem_of_getElem? (i := 233) rfl))) aA_no, hT⟩
set_option maxRecDepth 100000 in
set_option maxHeartbeats 4000000 in
theorem ss_12 {s : State} {b : Nat} (hts : ∀ w ∈ lw_tbl, w.before #[Value.ref b] s = true) (hs : ∀ c ∈ flatC (Jvm.Cond.and given_1 narrow_1), c.before #[Value.ref b] s = true) : ∃ q : Nat × Nat, vk_R "RubberHall$HouseReader" 106 "told" q.1 s ∧ va_O "java/lang/String" q.1 (aA s.heap.size) s s.heap ∧ va_OF "java/lang/String" "value" "[B" (.ref q.2) q.1 (aA s.heap.size) s s.heap ∧ va_OF "java/lang/String" "coder" "B" (.int 0) q.1 (aA s.heap.size) s s.heap ∧ va_T .byte q.2 4 (fun j => .int (([116, 111, 108, 100] : List Int32).getD j 0)) (aA s.heap.size) s s.heap := by
  obtain ⟨a, c, cA, kA, q1, q2, q3, q4, q5, q6, -⟩ := Cond.exactly_spec (args := #[Value.ref b]) (first := s) (o := none) (s := s) (idx := []) (t := (Term.string "RubberHall$HouseReader" 106)) (cls := "java/lang/String") (hs _ (List.mem_of_getElem? (i := 245) rfl))
  obtain ⟨t, ht, hT⟩ := va_Tof (args := #[Value.ref b]) (s := s) (tm := Term.field (Term.string "RubberHall$HouseReader" 106) "java/lang/String" "value" "[B") (ty := .byte) (N := 4) (f := fun j => .int (([116, 111, 108, 100] : List Int32).getD j 0)) (A := aA s.heap.size) (by decide) (hs _ (List.mem_of_getElem? (i := 247) rfl)) (va_eqt (hs _ (List.mem_of_getElem? (i := 248) rfl))) (fun j hj => by
    match j, hj with
    | 0, _ => exact va_eqt (hs _ (List.mem_of_getElem? (i := 249) rfl))
    | 1, _ => exact va_eqt (hs _ (List.mem_of_getElem? (i := 250) rfl))
    | 2, _ => exact va_eqt (hs _ (List.mem_of_getElem? (i := 251) rfl))
    | 3, _ => exact va_eqt (hs _ (List.mem_of_getElem? (i := 252) rfl))
    | j + 4, h => exact absurd h (by omega)) aA_no
  exact ⟨(a, t), vk_R.of (hts _ (List.mem_of_getElem? (i := 774) rfl)) q1, ⟨cA, q3, q5, by rw [q6]; exact q2, aA_no a (Array.getElem?_eq_some_iff.mp q3).1⟩, vk_OFof q1 ht aA_no, vk_OFof q1 (va_eqt (hs _ (List.mem_of_getElem? (i := 246) rfl))) aA_no, hT⟩
set_option maxRecDepth 100000 in
set_option maxHeartbeats 4000000 in
theorem ss_13 {s : State} {b : Nat} (hts : ∀ w ∈ lw_tbl, w.before #[Value.ref b] s = true) (hs : ∀ c ∈ flatC (Jvm.Cond.and given_1 narrow_1), c.before #[Value.ref b] s = true) : ∃ q : Nat × Nat, vk_R "RubberHall$HouseReader" 112 "strokes" q.1 s ∧ va_O "java/lang/String" q.1 (aA s.heap.size) s s.heap ∧ va_OF "java/lang/String" "value" "[B" (.ref q.2) q.1 (aA s.heap.size) s s.heap ∧ va_OF "java/lang/String" "coder" "B" (.int 0) q.1 (aA s.heap.size) s s.heap ∧ va_T .byte q.2 7 (fun j => .int (([115, 116, 114, 111, 107, 101, 115] : List Int32).getD j 0)) (aA s.heap.size) s s.heap := by
  obtain ⟨a, c, cA, kA, q1, q2, q3, q4, q5, q6, -⟩ := Cond.exactly_spec (args := #[Value.ref b]) (first := s) (o := none) (s := s) (idx := []) (t := (Term.string "RubberHall$HouseReader" 112)) (cls := "java/lang/String") (hs _ (List.mem_of_getElem? (i := 253) rfl))
  obtain ⟨t, ht, hT⟩ := va_Tof (args := #[Value.ref b]) (s := s) (tm := Term.field (Term.string "RubberHall$HouseReader" 112) "java/lang/String" "value" "[B") (ty := .byte) (N := 7) (f := fun j => .int (([115, 116, 114, 111, 107, 101, 115] : List Int32).getD j 0)) (A := aA s.heap.size) (by decide) (hs _ (List.mem_of_getElem? (i := 255) rfl)) (va_eqt (hs _ (List.mem_of_getElem? (i := 256) rfl))) (fun j hj => by
    match j, hj with
    | 0, _ => exact va_eqt (hs _ (List.mem_of_getElem? (i := 257) rfl))
    | 1, _ => exact va_eqt (hs _ (List.mem_of_getElem? (i := 258) rfl))
    | 2, _ => exact va_eqt (hs _ (List.mem_of_getElem? (i := 259) rfl))
    | 3, _ => exact va_eqt (hs _ (List.mem_of_getElem? (i := 260) rfl))
    | 4, _ => exact va_eqt (hs _ (List.mem_of_getElem? (i := 261) rfl))
    | 5, _ => exact va_eqt (hs _ (List.mem_of_getElem? (i := 262) rfl))
    | 6, _ => exact va_eqt (hs _ (List.mem_of_getElem? (i := 263) rfl))
    | j + 7, h => exact absurd h (by omega)) aA_no
  exact ⟨(a, t), vk_R.of (hts _ (List.mem_of_getElem? (i := 776) rfl)) q1, ⟨cA, q3, q5, by rw [q6]; exact q2, aA_no a (Array.getElem?_eq_some_iff.mp q3).1⟩, vk_OFof q1 ht aA_no, vk_OFof q1 (va_eqt (hs _ (List.mem_of_getElem? (i := 254) rfl))) aA_no, hT⟩
set_option maxRecDepth 100000 in
set_option maxHeartbeats 4000000 in
theorem ss_14 {s : State} {b : Nat} (hts : ∀ w ∈ lw_tbl, w.before #[Value.ref b] s = true) (hs : ∀ c ∈ flatC (Jvm.Cond.and given_1 narrow_1), c.before #[Value.ref b] s = true) : ∃ q : Nat × Nat, vk_R "RubberHall$HouseReader" 114 "spans odds wish" q.1 s ∧ va_O "java/lang/String" q.1 (aA s.heap.size) s s.heap ∧ va_OF "java/lang/String" "value" "[B" (.ref q.2) q.1 (aA s.heap.size) s s.heap ∧ va_OF "java/lang/String" "coder" "B" (.int 0) q.1 (aA s.heap.size) s s.heap ∧ va_T .byte q.2 15 (fun j => .int (([115, 112, 97, 110, 115, 32, 111, 100, 100, 115, 32, 119, 105, 115, 104] : List Int32).getD j 0)) (aA s.heap.size) s s.heap := by
  obtain ⟨a, c, cA, kA, q1, q2, q3, q4, q5, q6, -⟩ := Cond.exactly_spec (args := #[Value.ref b]) (first := s) (o := none) (s := s) (idx := []) (t := (Term.string "RubberHall$HouseReader" 114)) (cls := "java/lang/String") (hs _ (List.mem_of_getElem? (i := 264) rfl))
  obtain ⟨t, ht, hT⟩ := va_Tof (args := #[Value.ref b]) (s := s) (tm := Term.field (Term.string "RubberHall$HouseReader" 114) "java/lang/String" "value" "[B") (ty := .byte) (N := 15) (f := fun j => .int (([115, 112, 97, 110, 115, 32, 111, 100, 100, 115, 32, 119, 105, 115, 104] : List Int32).getD j 0)) (A := aA s.heap.size) (by decide) (hs _ (List.mem_of_getElem? (i := 266) rfl)) (va_eqt (hs _ (List.mem_of_getElem? (i := 267) rfl))) (fun j hj => by
    match j, hj with
    | 0, _ => exact va_eqt (hs _ (List.mem_of_getElem? (i := 268) rfl))
    | 1, _ => exact va_eqt (hs _ (List.mem_of_getElem? (i := 269) rfl))
    | 2, _ => exact va_eqt (hs _ (List.mem_of_getElem? (i := 270) rfl))
    | 3, _ => exact va_eqt (hs _ (List.mem_of_getElem? (i := 271) rfl))
    | 4, _ => exact va_eqt (hs _ (List.mem_of_getElem? (i := 272) rfl))
    | 5, _ => exact va_eqt (hs _ (List.mem_of_getElem? (i := 273) rfl))
    | 6, _ => exact va_eqt (hs _ (List.mem_of_getElem? (i := 274) rfl))
    | 7, _ => exact va_eqt (hs _ (List.mem_of_getElem? (i := 275) rfl))
    | 8, _ => exact va_eqt (hs _ (List.mem_of_getElem? (i := 276) rfl))
    | 9, _ => exact va_eqt (hs _ (List.mem_of_getElem? (i := 277) rfl))
    | 10, _ => exact va_eqt (hs _ (List.mem_of_getElem? (i := 278) rfl))
    | 11, _ => exact va_eqt (hs _ (List.mem_of_getElem? (i := 279) rfl))
    | 12, _ => exact va_eqt (hs _ (List.mem_of_getElem? (i := 280) rfl))
    | 13, _ => exact va_eqt (hs _ (List.mem_of_getElem? (i := 281) rfl))
    | 14, _ => exact va_eqt (hs _ (List.mem_of_getElem? (i := 282) rfl))
    | j + 15, h => exact absurd h (by omega)) aA_no
  exact ⟨(a, t), vk_R.of (hts _ (List.mem_of_getElem? (i := 780) rfl)) q1, ⟨cA, q3, q5, by rw [q6]; exact q2, aA_no a (Array.getElem?_eq_some_iff.mp q3).1⟩, vk_OFof q1 ht aA_no, vk_OFof q1 (va_eqt (hs _ (List.mem_of_getElem? (i := 265) rfl))) aA_no, hT⟩
set_option maxRecDepth 100000 in
set_option maxHeartbeats 4000000 in
theorem ss_15 {s : State} {b : Nat} (hts : ∀ w ∈ lw_tbl, w.before #[Value.ref b] s = true) (hs : ∀ c ∈ flatC (Jvm.Cond.and given_1 narrow_1), c.before #[Value.ref b] s = true) : ∃ q : Nat × Nat, vk_R "RubberHall$HouseReader" 116 "two" q.1 s ∧ va_O "java/lang/String" q.1 (aA s.heap.size) s s.heap ∧ va_OF "java/lang/String" "value" "[B" (.ref q.2) q.1 (aA s.heap.size) s s.heap ∧ va_OF "java/lang/String" "coder" "B" (.int 0) q.1 (aA s.heap.size) s s.heap ∧ va_T .byte q.2 3 (fun j => .int (([116, 119, 111] : List Int32).getD j 0)) (aA s.heap.size) s s.heap := by
  obtain ⟨a, c, cA, kA, q1, q2, q3, q4, q5, q6, -⟩ := Cond.exactly_spec (args := #[Value.ref b]) (first := s) (o := none) (s := s) (idx := []) (t := (Term.string "RubberHall$HouseReader" 116)) (cls := "java/lang/String") (hs _ (List.mem_of_getElem? (i := 283) rfl))
  obtain ⟨t, ht, hT⟩ := va_Tof (args := #[Value.ref b]) (s := s) (tm := Term.field (Term.string "RubberHall$HouseReader" 116) "java/lang/String" "value" "[B") (ty := .byte) (N := 3) (f := fun j => .int (([116, 119, 111] : List Int32).getD j 0)) (A := aA s.heap.size) (by decide) (hs _ (List.mem_of_getElem? (i := 285) rfl)) (va_eqt (hs _ (List.mem_of_getElem? (i := 286) rfl))) (fun j hj => by
    match j, hj with
    | 0, _ => exact va_eqt (hs _ (List.mem_of_getElem? (i := 287) rfl))
    | 1, _ => exact va_eqt (hs _ (List.mem_of_getElem? (i := 288) rfl))
    | 2, _ => exact va_eqt (hs _ (List.mem_of_getElem? (i := 289) rfl))
    | j + 3, h => exact absurd h (by omega)) aA_no
  exact ⟨(a, t), vk_R.of (hts _ (List.mem_of_getElem? (i := 782) rfl)) q1, ⟨cA, q3, q5, by rw [q6]; exact q2, aA_no a (Array.getElem?_eq_some_iff.mp q3).1⟩, vk_OFof q1 ht aA_no, vk_OFof q1 (va_eqt (hs _ (List.mem_of_getElem? (i := 284) rfl))) aA_no, hT⟩
set_option maxRecDepth 100000 in
set_option maxHeartbeats 4000000 in
theorem ss_16 {s : State} {b : Nat} (hts : ∀ w ∈ lw_tbl, w.before #[Value.ref b] s = true) (hs : ∀ c ∈ flatC (Jvm.Cond.and given_1 narrow_1), c.before #[Value.ref b] s = true) : ∃ q : Nat × Nat, vk_R "RubberHall$HouseReader" 118 "spread" q.1 s ∧ va_O "java/lang/String" q.1 (aA s.heap.size) s s.heap ∧ va_OF "java/lang/String" "value" "[B" (.ref q.2) q.1 (aA s.heap.size) s s.heap ∧ va_OF "java/lang/String" "coder" "B" (.int 0) q.1 (aA s.heap.size) s s.heap ∧ va_T .byte q.2 6 (fun j => .int (([115, 112, 114, 101, 97, 100] : List Int32).getD j 0)) (aA s.heap.size) s s.heap := by
  obtain ⟨a, c, cA, kA, q1, q2, q3, q4, q5, q6, -⟩ := Cond.exactly_spec (args := #[Value.ref b]) (first := s) (o := none) (s := s) (idx := []) (t := (Term.string "RubberHall$HouseReader" 118)) (cls := "java/lang/String") (hs _ (List.mem_of_getElem? (i := 290) rfl))
  obtain ⟨t, ht, hT⟩ := va_Tof (args := #[Value.ref b]) (s := s) (tm := Term.field (Term.string "RubberHall$HouseReader" 118) "java/lang/String" "value" "[B") (ty := .byte) (N := 6) (f := fun j => .int (([115, 112, 114, 101, 97, 100] : List Int32).getD j 0)) (A := aA s.heap.size) (by decide) (hs _ (List.mem_of_getElem? (i := 292) rfl)) (va_eqt (hs _ (List.mem_of_getElem? (i := 293) rfl))) (fun j hj => by
    match j, hj with
    | 0, _ => exact va_eqt (hs _ (List.mem_of_getElem? (i := 294) rfl))
    | 1, _ => exact va_eqt (hs _ (List.mem_of_getElem? (i := 295) rfl))
    | 2, _ => exact va_eqt (hs _ (List.mem_of_getElem? (i := 296) rfl))
    | 3, _ => exact va_eqt (hs _ (List.mem_of_getElem? (i := 297) rfl))
    | 4, _ => exact va_eqt (hs _ (List.mem_of_getElem? (i := 298) rfl))
    | 5, _ => exact va_eqt (hs _ (List.mem_of_getElem? (i := 299) rfl))
    | j + 6, h => exact absurd h (by omega)) aA_no
  exact ⟨(a, t), vk_R.of (hts _ (List.mem_of_getElem? (i := 783) rfl)) q1, ⟨cA, q3, q5, by rw [q6]; exact q2, aA_no a (Array.getElem?_eq_some_iff.mp q3).1⟩, vk_OFof q1 ht aA_no, vk_OFof q1 (va_eqt (hs _ (List.mem_of_getElem? (i := 291) rfl))) aA_no, hT⟩
set_option maxRecDepth 100000 in
set_option maxHeartbeats 4000000 in
theorem ss_17 {s : State} {b : Nat} (hts : ∀ w ∈ lw_tbl, w.before #[Value.ref b] s = true) (hs : ∀ c ∈ flatC (Jvm.Cond.and given_1 narrow_1), c.before #[Value.ref b] s = true) : ∃ q : Nat × Nat, vk_R "RubberHall$HouseReader" 120 "turn" q.1 s ∧ va_O "java/lang/String" q.1 (aA s.heap.size) s s.heap ∧ va_OF "java/lang/String" "value" "[B" (.ref q.2) q.1 (aA s.heap.size) s s.heap ∧ va_OF "java/lang/String" "coder" "B" (.int 0) q.1 (aA s.heap.size) s s.heap ∧ va_T .byte q.2 4 (fun j => .int (([116, 117, 114, 110] : List Int32).getD j 0)) (aA s.heap.size) s s.heap := by
  obtain ⟨a, c, cA, kA, q1, q2, q3, q4, q5, q6, -⟩ := Cond.exactly_spec (args := #[Value.ref b]) (first := s) (o := none) (s := s) (idx := []) (t := (Term.string "RubberHall$HouseReader" 120)) (cls := "java/lang/String") (hs _ (List.mem_of_getElem? (i := 300) rfl))
  obtain ⟨t, ht, hT⟩ := va_Tof (args := #[Value.ref b]) (s := s) (tm := Term.field (Term.string "RubberHall$HouseReader" 120) "java/lang/String" "value" "[B") (ty := .byte) (N := 4) (f := fun j => .int (([116, 117, 114, 110] : List Int32).getD j 0)) (A := aA s.heap.size) (by decide) (hs _ (List.mem_of_getElem? (i := 302) rfl)) (va_eqt (hs _ (List.mem_of_getElem? (i := 303) rfl))) (fun j hj => by
    match j, hj with
    | 0, _ => exact va_eqt (hs _ (List.mem_of_getElem? (i := 304) rfl))
    | 1, _ => exact va_eqt (hs _ (List.mem_of_getElem? (i := 305) rfl))
    | 2, _ => exact va_eqt (hs _ (List.mem_of_getElem? (i := 306) rfl))
    | 3, _ => exact va_eqt (hs _ (List.mem_of_getElem? (i := 307) rfl))
    | j + 4, h => exact absurd h (by omega)) aA_no
  exact ⟨(a, t), vk_R.of (hts _ (List.mem_of_getElem? (i := 784) rfl)) q1, ⟨cA, q3, q5, by rw [q6]; exact q2, aA_no a (Array.getElem?_eq_some_iff.mp q3).1⟩, vk_OFof q1 ht aA_no, vk_OFof q1 (va_eqt (hs _ (List.mem_of_getElem? (i := 301) rfl))) aA_no, hT⟩
set_option maxRecDepth 100000 in
set_option maxHeartbeats 4000000 in
theorem ss_18 {s : State} {b : Nat} (hts : ∀ w ∈ lw_tbl, w.before #[Value.ref b] s = true) (hs : ∀ c ∈ flatC (Jvm.Cond.and given_1 narrow_1), c.before #[Value.ref b] s = true) : ∃ q : Nat × Nat, vk_R "RubberHall$HouseReader" 122 "shape" q.1 s ∧ va_O "java/lang/String" q.1 (aA s.heap.size) s s.heap ∧ va_OF "java/lang/String" "value" "[B" (.ref q.2) q.1 (aA s.heap.size) s s.heap ∧ va_OF "java/lang/String" "coder" "B" (.int 0) q.1 (aA s.heap.size) s s.heap ∧ va_T .byte q.2 5 (fun j => .int (([115, 104, 97, 112, 101] : List Int32).getD j 0)) (aA s.heap.size) s s.heap := by
  obtain ⟨a, c, cA, kA, q1, q2, q3, q4, q5, q6, -⟩ := Cond.exactly_spec (args := #[Value.ref b]) (first := s) (o := none) (s := s) (idx := []) (t := (Term.string "RubberHall$HouseReader" 122)) (cls := "java/lang/String") (hs _ (List.mem_of_getElem? (i := 308) rfl))
  obtain ⟨t, ht, hT⟩ := va_Tof (args := #[Value.ref b]) (s := s) (tm := Term.field (Term.string "RubberHall$HouseReader" 122) "java/lang/String" "value" "[B") (ty := .byte) (N := 5) (f := fun j => .int (([115, 104, 97, 112, 101] : List Int32).getD j 0)) (A := aA s.heap.size) (by decide) (hs _ (List.mem_of_getElem? (i := 310) rfl)) (va_eqt (hs _ (List.mem_of_getElem? (i := 311) rfl))) (fun j hj => by
    match j, hj with
    | 0, _ => exact va_eqt (hs _ (List.mem_of_getElem? (i := 312) rfl))
    | 1, _ => exact va_eqt (hs _ (List.mem_of_getElem? (i := 313) rfl))
    | 2, _ => exact va_eqt (hs _ (List.mem_of_getElem? (i := 314) rfl))
    | 3, _ => exact va_eqt (hs _ (List.mem_of_getElem? (i := 315) rfl))
    | 4, _ => exact va_eqt (hs _ (List.mem_of_getElem? (i := 316) rfl))
    | j + 5, h => exact absurd h (by omega)) aA_no
  exact ⟨(a, t), vk_R.of (hts _ (List.mem_of_getElem? (i := 785) rfl)) q1, ⟨cA, q3, q5, by rw [q6]; exact q2, aA_no a (Array.getElem?_eq_some_iff.mp q3).1⟩, vk_OFof q1 ht aA_no, vk_OFof q1 (va_eqt (hs _ (List.mem_of_getElem? (i := 309) rfl))) aA_no, hT⟩
set_option maxRecDepth 100000 in
set_option maxHeartbeats 4000000 in
theorem ss_19 {s : State} {b : Nat} (hts : ∀ w ∈ lw_tbl, w.before #[Value.ref b] s = true) (hs : ∀ c ∈ flatC (Jvm.Cond.and given_1 narrow_1), c.before #[Value.ref b] s = true) : ∃ q : Nat × Nat, vk_R "RubberHall$RuleReader" 69 "not" q.1 s ∧ va_O "java/lang/String" q.1 (aA s.heap.size) s s.heap ∧ va_OF "java/lang/String" "value" "[B" (.ref q.2) q.1 (aA s.heap.size) s s.heap ∧ va_OF "java/lang/String" "coder" "B" (.int 0) q.1 (aA s.heap.size) s s.heap ∧ va_T .byte q.2 3 (fun j => .int (([110, 111, 116] : List Int32).getD j 0)) (aA s.heap.size) s s.heap := by
  obtain ⟨a, c, cA, kA, q1, q2, q3, q4, q5, q6, -⟩ := Cond.exactly_spec (args := #[Value.ref b]) (first := s) (o := none) (s := s) (idx := []) (t := (Term.string "RubberHall$RuleReader" 69)) (cls := "java/lang/String") (hs _ (List.mem_of_getElem? (i := 330) rfl))
  obtain ⟨t, ht, hT⟩ := va_Tof (args := #[Value.ref b]) (s := s) (tm := Term.field (Term.string "RubberHall$RuleReader" 69) "java/lang/String" "value" "[B") (ty := .byte) (N := 3) (f := fun j => .int (([110, 111, 116] : List Int32).getD j 0)) (A := aA s.heap.size) (by decide) (hs _ (List.mem_of_getElem? (i := 332) rfl)) (va_eqt (hs _ (List.mem_of_getElem? (i := 333) rfl))) (fun j hj => by
    match j, hj with
    | 0, _ => exact va_eqt (hs _ (List.mem_of_getElem? (i := 334) rfl))
    | 1, _ => exact va_eqt (hs _ (List.mem_of_getElem? (i := 335) rfl))
    | 2, _ => exact va_eqt (hs _ (List.mem_of_getElem? (i := 336) rfl))
    | j + 3, h => exact absurd h (by omega)) aA_no
  exact ⟨(a, t), vk_R.of (hts _ (List.mem_of_getElem? (i := 809) rfl)) q1, ⟨cA, q3, q5, by rw [q6]; exact q2, aA_no a (Array.getElem?_eq_some_iff.mp q3).1⟩, vk_OFof q1 ht aA_no, vk_OFof q1 (va_eqt (hs _ (List.mem_of_getElem? (i := 331) rfl))) aA_no, hT⟩
set_option maxRecDepth 100000 in
set_option maxHeartbeats 4000000 in
theorem ss_20 {s : State} {b : Nat} (hts : ∀ w ∈ lw_tbl, w.before #[Value.ref b] s = true) (hs : ∀ c ∈ flatC (Jvm.Cond.and given_1 narrow_1), c.before #[Value.ref b] s = true) : ∃ q : Nat × Nat, vk_R "RubberHall$RuleReader" 78 "felt said shown start slow far late way thing told strokes who" q.1 s ∧ va_O "java/lang/String" q.1 (aA s.heap.size) s s.heap ∧ va_OF "java/lang/String" "value" "[B" (.ref q.2) q.1 (aA s.heap.size) s s.heap ∧ va_OF "java/lang/String" "coder" "B" (.int 0) q.1 (aA s.heap.size) s s.heap ∧ va_T .byte q.2 62 (fun j => .int (([102, 101, 108, 116, 32, 115, 97, 105, 100, 32, 115, 104, 111, 119, 110, 32, 115, 116, 97, 114, 116, 32, 115, 108, 111, 119, 32, 102, 97, 114, 32, 108, 97, 116, 101, 32, 119, 97, 121, 32, 116, 104, 105, 110, 103, 32, 116, 111, 108, 100, 32, 115, 116, 114, 111, 107, 101, 115, 32, 119, 104, 111] : List Int32).getD j 0)) (aA s.heap.size) s s.heap := by
  obtain ⟨a, c, cA, kA, q1, q2, q3, q4, q5, q6, -⟩ := Cond.exactly_spec (args := #[Value.ref b]) (first := s) (o := none) (s := s) (idx := []) (t := (Term.string "RubberHall$RuleReader" 78)) (cls := "java/lang/String") (hs _ (List.mem_of_getElem? (i := 337) rfl))
  obtain ⟨t, ht, hT⟩ := va_Tof (args := #[Value.ref b]) (s := s) (tm := Term.field (Term.string "RubberHall$RuleReader" 78) "java/lang/String" "value" "[B") (ty := .byte) (N := 62) (f := fun j => .int (([102, 101, 108, 116, 32, 115, 97, 105, 100, 32, 115, 104, 111, 119, 110, 32, 115, 116, 97, 114, 116, 32, 115, 108, 111, 119, 32, 102, 97, 114, 32, 108, 97, 116, 101, 32, 119, 97, 121, 32, 116, 104, 105, 110, 103, 32, 116, 111, 108, 100, 32, 115, 116, 114, 111, 107, 101, 115, 32, 119, 104, 111] : List Int32).getD j 0)) (A := aA s.heap.size) (by decide) (hs _ (List.mem_of_getElem? (i := 339) rfl)) (va_eqt (hs _ (List.mem_of_getElem? (i := 340) rfl))) (fun j hj => by
    match j, hj with
    | 0, _ => exact va_eqt (hs _ (List.mem_of_getElem? (i := 341) rfl))
    | 1, _ => exact va_eqt (hs _ (List.mem_of_getElem? (i := 342) rfl))
    | 2, _ => exact va_eqt (hs _ (List.mem_of_getElem? (i := 343) rfl))
    | 3, _ => exact va_eqt (hs _ (List.mem_of_getElem? (i := 344) rfl))
    | 4, _ => exact va_eqt (hs _ (List.mem_of_getElem? (i := 345) rfl))
    | 5, _ => exact va_eqt (hs _ (List.mem_of_getElem? (i := 346) rfl))
    | 6, _ => exact va_eqt (hs _ (List.mem_of_getElem? (i := 347) rfl))
    | 7, _ => exact va_eqt (hs _ (List.mem_of_getElem? (i := 348) rfl))
    | 8, _ => exact va_eqt (hs _ (List.mem_of_getElem? (i := 349) rfl))
    | 9, _ => exact va_eqt (hs _ (List.mem_of_getElem? (i := 350) rfl))
    | 10, _ => exact va_eqt (hs _ (List.mem_of_getElem? (i := 351) rfl))
    | 11, _ => exact va_eqt (hs _ (List.mem_of_getElem? (i := 352) rfl))
    | 12, _ => exact va_eqt (hs _ (List.mem_of_getElem? (i := 353) rfl))
    | 13, _ => exact va_eqt (hs _ (List.mem_of_getElem? (i := 354) rfl))
    | 14, _ => exact va_eqt (hs _ (List.mem_of_getElem? (i := 355) rfl))
    | 15, _ => exact va_eqt (hs _ (List.mem_of_getElem? (i := 356) rfl))
    | 16, _ => exact va_eqt (hs _ (List.mem_of_getElem? (i := 357) rfl))
    | 17, _ => exact va_eqt (hs _ (List.mem_of_getElem? (i := 358) rfl))
    | 18, _ => exact va_eqt (hs _ (List.mem_of_getElem? (i := 359) rfl))
    | 19, _ => exact va_eqt (hs _ (List.mem_of_getElem? (i := 360) rfl))
    | 20, _ => exact va_eqt (hs _ (List.mem_of_getElem? (i := 361) rfl))
    | 21, _ => exact va_eqt (hs _ (List.mem_of_getElem? (i := 362) rfl))
    | 22, _ => exact va_eqt (hs _ (List.mem_of_getElem? (i := 363) rfl))
    | 23, _ => exact va_eqt (hs _ (List.mem_of_getElem? (i := 364) rfl))
    | 24, _ => exact va_eqt (hs _ (List.mem_of_getElem? (i := 365) rfl))
    | 25, _ => exact va_eqt (hs _ (List.mem_of_getElem? (i := 366) rfl))
    | 26, _ => exact va_eqt (hs _ (List.mem_of_getElem? (i := 367) rfl))
    | 27, _ => exact va_eqt (hs _ (List.mem_of_getElem? (i := 368) rfl))
    | 28, _ => exact va_eqt (hs _ (List.mem_of_getElem? (i := 369) rfl))
    | 29, _ => exact va_eqt (hs _ (List.mem_of_getElem? (i := 370) rfl))
    | 30, _ => exact va_eqt (hs _ (List.mem_of_getElem? (i := 371) rfl))
    | 31, _ => exact va_eqt (hs _ (List.mem_of_getElem? (i := 372) rfl))
    | 32, _ => exact va_eqt (hs _ (List.mem_of_getElem? (i := 373) rfl))
    | 33, _ => exact va_eqt (hs _ (List.mem_of_getElem? (i := 374) rfl))
    | 34, _ => exact va_eqt (hs _ (List.mem_of_getElem? (i := 375) rfl))
    | 35, _ => exact va_eqt (hs _ (List.mem_of_getElem? (i := 376) rfl))
    | 36, _ => exact va_eqt (hs _ (List.mem_of_getElem? (i := 377) rfl))
    | 37, _ => exact va_eqt (hs _ (List.mem_of_getElem? (i := 378) rfl))
    | 38, _ => exact va_eqt (hs _ (List.mem_of_getElem? (i := 379) rfl))
    | 39, _ => exact va_eqt (hs _ (List.mem_of_getElem? (i := 380) rfl))
    | 40, _ => exact va_eqt (hs _ (List.mem_of_getElem? (i := 381) rfl))
    | 41, _ => exact va_eqt (hs _ (List.mem_of_getElem? (i := 382) rfl))
    | 42, _ => exact va_eqt (hs _ (List.mem_of_getElem? (i := 383) rfl))
    | 43, _ => exact va_eqt (hs _ (List.mem_of_getElem? (i := 384) rfl))
    | 44, _ => exact va_eqt (hs _ (List.mem_of_getElem? (i := 385) rfl))
    | 45, _ => exact va_eqt (hs _ (List.mem_of_getElem? (i := 386) rfl))
    | 46, _ => exact va_eqt (hs _ (List.mem_of_getElem? (i := 387) rfl))
    | 47, _ => exact va_eqt (hs _ (List.mem_of_getElem? (i := 388) rfl))
    | 48, _ => exact va_eqt (hs _ (List.mem_of_getElem? (i := 389) rfl))
    | 49, _ => exact va_eqt (hs _ (List.mem_of_getElem? (i := 390) rfl))
    | 50, _ => exact va_eqt (hs _ (List.mem_of_getElem? (i := 391) rfl))
    | 51, _ => exact va_eqt (hs _ (List.mem_of_getElem? (i := 392) rfl))
    | 52, _ => exact va_eqt (hs _ (List.mem_of_getElem? (i := 393) rfl))
    | 53, _ => exact va_eqt (hs _ (List.mem_of_getElem? (i := 394) rfl))
    | 54, _ => exact va_eqt (hs _ (List.mem_of_getElem? (i := 395) rfl))
    | 55, _ => exact va_eqt (hs _ (List.mem_of_getElem? (i := 396) rfl))
    | 56, _ => exact va_eqt (hs _ (List.mem_of_getElem? (i := 397) rfl))
    | 57, _ => exact va_eqt (hs _ (List.mem_of_getElem? (i := 398) rfl))
    | 58, _ => exact va_eqt (hs _ (List.mem_of_getElem? (i := 399) rfl))
    | 59, _ => exact va_eqt (hs _ (List.mem_of_getElem? (i := 400) rfl))
    | 60, _ => exact va_eqt (hs _ (List.mem_of_getElem? (i := 401) rfl))
    | 61, _ => exact va_eqt (hs _ (List.mem_of_getElem? (i := 402) rfl))
    | j + 62, h => exact absurd h (by omega)) aA_no
  exact ⟨(a, t), vk_R.of (hts _ (List.mem_of_getElem? (i := 817) rfl)) q1, ⟨cA, q3, q5, by rw [q6]; exact q2, aA_no a (Array.getElem?_eq_some_iff.mp q3).1⟩, vk_OFof q1 ht aA_no, vk_OFof q1 (va_eqt (hs _ (List.mem_of_getElem? (i := 338) rfl))) aA_no, hT⟩
set_option maxRecDepth 100000 in
set_option maxHeartbeats 4000000 in
theorem ss_21 {s : State} {b : Nat} (hts : ∀ w ∈ lw_tbl, w.before #[Value.ref b] s = true) (hs : ∀ c ∈ flatC (Jvm.Cond.and given_1 narrow_1), c.before #[Value.ref b] s = true) : ∃ q : Nat × Nat, vk_R "RubberHall$RuleReader" 92 "<=+-*/" q.1 s ∧ va_O "java/lang/String" q.1 (aA s.heap.size) s s.heap ∧ va_OF "java/lang/String" "value" "[B" (.ref q.2) q.1 (aA s.heap.size) s s.heap ∧ va_OF "java/lang/String" "coder" "B" (.int 0) q.1 (aA s.heap.size) s s.heap ∧ va_T .byte q.2 6 (fun j => .int (([60, 61, 43, 45, 42, 47] : List Int32).getD j 0)) (aA s.heap.size) s s.heap := by
  obtain ⟨a, c, cA, kA, q1, q2, q3, q4, q5, q6, -⟩ := Cond.exactly_spec (args := #[Value.ref b]) (first := s) (o := none) (s := s) (idx := []) (t := (Term.string "RubberHall$RuleReader" 92)) (cls := "java/lang/String") (hs _ (List.mem_of_getElem? (i := 403) rfl))
  obtain ⟨t, ht, hT⟩ := va_Tof (args := #[Value.ref b]) (s := s) (tm := Term.field (Term.string "RubberHall$RuleReader" 92) "java/lang/String" "value" "[B") (ty := .byte) (N := 6) (f := fun j => .int (([60, 61, 43, 45, 42, 47] : List Int32).getD j 0)) (A := aA s.heap.size) (by decide) (hs _ (List.mem_of_getElem? (i := 405) rfl)) (va_eqt (hs _ (List.mem_of_getElem? (i := 406) rfl))) (fun j hj => by
    match j, hj with
    | 0, _ => exact va_eqt (hs _ (List.mem_of_getElem? (i := 407) rfl))
    | 1, _ => exact va_eqt (hs _ (List.mem_of_getElem? (i := 408) rfl))
    | 2, _ => exact va_eqt (hs _ (List.mem_of_getElem? (i := 409) rfl))
    | 3, _ => exact va_eqt (hs _ (List.mem_of_getElem? (i := 410) rfl))
    | 4, _ => exact va_eqt (hs _ (List.mem_of_getElem? (i := 411) rfl))
    | 5, _ => exact va_eqt (hs _ (List.mem_of_getElem? (i := 412) rfl))
    | j + 6, h => exact absurd h (by omega)) aA_no
  exact ⟨(a, t), vk_R.of (hts _ (List.mem_of_getElem? (i := 838) rfl)) q1, ⟨cA, q3, q5, by rw [q6]; exact q2, aA_no a (Array.getElem?_eq_some_iff.mp q3).1⟩, vk_OFof q1 ht aA_no, vk_OFof q1 (va_eqt (hs _ (List.mem_of_getElem? (i := 404) rfl))) aA_no, hT⟩
set_option maxRecDepth 100000 in
set_option maxHeartbeats 4000000 in
theorem ss_22 {s : State} {b : Nat} (hts : ∀ w ∈ lw_tbl, w.before #[Value.ref b] s = true) (hs : ∀ c ∈ flatC (Jvm.Cond.and given_1 narrow_1), c.before #[Value.ref b] s = true) : ∃ q : Nat × Nat, vk_R "RubberHall$RuleReader" 97 "or and" q.1 s ∧ va_O "java/lang/String" q.1 (aA s.heap.size) s s.heap ∧ va_OF "java/lang/String" "value" "[B" (.ref q.2) q.1 (aA s.heap.size) s s.heap ∧ va_OF "java/lang/String" "coder" "B" (.int 0) q.1 (aA s.heap.size) s s.heap ∧ va_T .byte q.2 6 (fun j => .int (([111, 114, 32, 97, 110, 100] : List Int32).getD j 0)) (aA s.heap.size) s s.heap := by
  obtain ⟨a, c, cA, kA, q1, q2, q3, q4, q5, q6, -⟩ := Cond.exactly_spec (args := #[Value.ref b]) (first := s) (o := none) (s := s) (idx := []) (t := (Term.string "RubberHall$RuleReader" 97)) (cls := "java/lang/String") (hs _ (List.mem_of_getElem? (i := 413) rfl))
  obtain ⟨t, ht, hT⟩ := va_Tof (args := #[Value.ref b]) (s := s) (tm := Term.field (Term.string "RubberHall$RuleReader" 97) "java/lang/String" "value" "[B") (ty := .byte) (N := 6) (f := fun j => .int (([111, 114, 32, 97, 110, 100] : List Int32).getD j 0)) (A := aA s.heap.size) (by decide) (hs _ (List.mem_of_getElem? (i := 415) rfl)) (va_eqt (hs _ (List.mem_of_getElem? (i := 416) rfl))) (fun j hj => by
    match j, hj with
    | 0, _ => exact va_eqt (hs _ (List.mem_of_getElem? (i := 417) rfl))
    | 1, _ => exact va_eqt (hs _ (List.mem_of_getElem? (i := 418) rfl))
    | 2, _ => exact va_eqt (hs _ (List.mem_of_getElem? (i := 419) rfl))
    | 3, _ => exact va_eqt (hs _ (List.mem_of_getElem? (i := 420) rfl))
    | 4, _ => exact va_eqt (hs _ (List.mem_of_getElem? (i := 421) rfl))
    | 5, _ => exact va_eqt (hs _ (List.mem_of_getElem? (i := 422) rfl))
    | j + 6, h => exact absurd h (by omega)) aA_no
  exact ⟨(a, t), vk_R.of (hts _ (List.mem_of_getElem? (i := 843) rfl)) q1, ⟨cA, q3, q5, by rw [q6]; exact q2, aA_no a (Array.getElem?_eq_some_iff.mp q3).1⟩, vk_OFof q1 ht aA_no, vk_OFof q1 (va_eqt (hs _ (List.mem_of_getElem? (i := 414) rfl))) aA_no, hT⟩
set_option maxRecDepth 100000 in
set_option maxHeartbeats 4000000 in
theorem ss_23 {s : State} {b : Nat} (hts : ∀ w ∈ lw_tbl, w.before #[Value.ref b] s = true) (hs : ∀ c ∈ flatC (Jvm.Cond.and given_1 narrow_1), c.before #[Value.ref b] s = true) : ∃ q : Nat × Nat, vk_R "RubberHall$SheetReader" 18 "sheet" q.1 s ∧ va_O "java/lang/String" q.1 (aA s.heap.size) s s.heap ∧ va_OF "java/lang/String" "value" "[B" (.ref q.2) q.1 (aA s.heap.size) s s.heap ∧ va_OF "java/lang/String" "coder" "B" (.int 0) q.1 (aA s.heap.size) s s.heap ∧ va_T .byte q.2 5 (fun j => .int (([115, 104, 101, 101, 116] : List Int32).getD j 0)) (aA s.heap.size) s s.heap := by
  obtain ⟨a, c, cA, kA, q1, q2, q3, q4, q5, q6, -⟩ := Cond.exactly_spec (args := #[Value.ref b]) (first := s) (o := none) (s := s) (idx := []) (t := (Term.string "RubberHall$SheetReader" 18)) (cls := "java/lang/String") (hs _ (List.mem_of_getElem? (i := 423) rfl))
  obtain ⟨t, ht, hT⟩ := va_Tof (args := #[Value.ref b]) (s := s) (tm := Term.field (Term.string "RubberHall$SheetReader" 18) "java/lang/String" "value" "[B") (ty := .byte) (N := 5) (f := fun j => .int (([115, 104, 101, 101, 116] : List Int32).getD j 0)) (A := aA s.heap.size) (by decide) (hs _ (List.mem_of_getElem? (i := 425) rfl)) (va_eqt (hs _ (List.mem_of_getElem? (i := 426) rfl))) (fun j hj => by
    match j, hj with
    | 0, _ => exact va_eqt (hs _ (List.mem_of_getElem? (i := 427) rfl))
    | 1, _ => exact va_eqt (hs _ (List.mem_of_getElem? (i := 428) rfl))
    | 2, _ => exact va_eqt (hs _ (List.mem_of_getElem? (i := 429) rfl))
    | 3, _ => exact va_eqt (hs _ (List.mem_of_getElem? (i := 430) rfl))
    | 4, _ => exact va_eqt (hs _ (List.mem_of_getElem? (i := 431) rfl))
    | j + 5, h => exact absurd h (by omega)) aA_no
  exact ⟨(a, t), vk_R.of (hts _ (List.mem_of_getElem? (i := 877) rfl)) q1, ⟨cA, q3, q5, by rw [q6]; exact q2, aA_no a (Array.getElem?_eq_some_iff.mp q3).1⟩, vk_OFof q1 ht aA_no, vk_OFof q1 (va_eqt (hs _ (List.mem_of_getElem? (i := 424) rfl))) aA_no, hT⟩
set_option maxRecDepth 100000 in
set_option maxHeartbeats 4000000 in
theorem ss_24 {s : State} {b : Nat} (hts : ∀ w ∈ lw_tbl, w.before #[Value.ref b] s = true) (hs : ∀ c ∈ flatC (Jvm.Cond.and given_1 narrow_1), c.before #[Value.ref b] s = true) : ∃ q : Nat × Nat, vk_R "RubberHall$SheetReader" 58 "shown" q.1 s ∧ va_O "java/lang/String" q.1 (aA s.heap.size) s s.heap ∧ va_OF "java/lang/String" "value" "[B" (.ref q.2) q.1 (aA s.heap.size) s s.heap ∧ va_OF "java/lang/String" "coder" "B" (.int 0) q.1 (aA s.heap.size) s s.heap ∧ va_T .byte q.2 5 (fun j => .int (([115, 104, 111, 119, 110] : List Int32).getD j 0)) (aA s.heap.size) s s.heap := by
  obtain ⟨a, c, cA, kA, q1, q2, q3, q4, q5, q6, -⟩ := Cond.exactly_spec (args := #[Value.ref b]) (first := s) (o := none) (s := s) (idx := []) (t := (Term.string "RubberHall$SheetReader" 58)) (cls := "java/lang/String") (hs _ (List.mem_of_getElem? (i := 432) rfl))
  obtain ⟨t, ht, hT⟩ := va_Tof (args := #[Value.ref b]) (s := s) (tm := Term.field (Term.string "RubberHall$SheetReader" 58) "java/lang/String" "value" "[B") (ty := .byte) (N := 5) (f := fun j => .int (([115, 104, 111, 119, 110] : List Int32).getD j 0)) (A := aA s.heap.size) (by decide) (hs _ (List.mem_of_getElem? (i := 434) rfl)) (va_eqt (hs _ (List.mem_of_getElem? (i := 435) rfl))) (fun j hj => by
    match j, hj with
    | 0, _ => exact va_eqt (hs _ (List.mem_of_getElem? (i := 436) rfl))
    | 1, _ => exact va_eqt (hs _ (List.mem_of_getElem? (i := 437) rfl))
    | 2, _ => exact va_eqt (hs _ (List.mem_of_getElem? (i := 438) rfl))
    | 3, _ => exact va_eqt (hs _ (List.mem_of_getElem? (i := 439) rfl))
    | 4, _ => exact va_eqt (hs _ (List.mem_of_getElem? (i := 440) rfl))
    | j + 5, h => exact absurd h (by omega)) aA_no
  exact ⟨(a, t), vk_R.of (hts _ (List.mem_of_getElem? (i := 907) rfl)) q1, ⟨cA, q3, q5, by rw [q6]; exact q2, aA_no a (Array.getElem?_eq_some_iff.mp q3).1⟩, vk_OFof q1 ht aA_no, vk_OFof q1 (va_eqt (hs _ (List.mem_of_getElem? (i := 433) rfl))) aA_no, hT⟩
set_option maxRecDepth 100000 in
set_option maxHeartbeats 4000000 in
theorem ss_25 {s : State} {b : Nat} (hts : ∀ w ∈ lw_tbl, w.before #[Value.ref b] s = true) (hs : ∀ c ∈ flatC (Jvm.Cond.and given_1 narrow_1), c.before #[Value.ref b] s = true) : ∃ q : Nat × Nat, vk_R "RubberHall$SheetReader" 72 "start" q.1 s ∧ va_O "java/lang/String" q.1 (aA s.heap.size) s s.heap ∧ va_OF "java/lang/String" "value" "[B" (.ref q.2) q.1 (aA s.heap.size) s s.heap ∧ va_OF "java/lang/String" "coder" "B" (.int 0) q.1 (aA s.heap.size) s s.heap ∧ va_T .byte q.2 5 (fun j => .int (([115, 116, 97, 114, 116] : List Int32).getD j 0)) (aA s.heap.size) s s.heap := by
  obtain ⟨a, c, cA, kA, q1, q2, q3, q4, q5, q6, -⟩ := Cond.exactly_spec (args := #[Value.ref b]) (first := s) (o := none) (s := s) (idx := []) (t := (Term.string "RubberHall$SheetReader" 72)) (cls := "java/lang/String") (hs _ (List.mem_of_getElem? (i := 449) rfl))
  obtain ⟨t, ht, hT⟩ := va_Tof (args := #[Value.ref b]) (s := s) (tm := Term.field (Term.string "RubberHall$SheetReader" 72) "java/lang/String" "value" "[B") (ty := .byte) (N := 5) (f := fun j => .int (([115, 116, 97, 114, 116] : List Int32).getD j 0)) (A := aA s.heap.size) (by decide) (hs _ (List.mem_of_getElem? (i := 451) rfl)) (va_eqt (hs _ (List.mem_of_getElem? (i := 452) rfl))) (fun j hj => by
    match j, hj with
    | 0, _ => exact va_eqt (hs _ (List.mem_of_getElem? (i := 453) rfl))
    | 1, _ => exact va_eqt (hs _ (List.mem_of_getElem? (i := 454) rfl))
    | 2, _ => exact va_eqt (hs _ (List.mem_of_getElem? (i := 455) rfl))
    | 3, _ => exact va_eqt (hs _ (List.mem_of_getElem? (i := 456) rfl))
    | 4, _ => exact va_eqt (hs _ (List.mem_of_getElem? (i := 457) rfl))
    | j + 5, h => exact absurd h (by omega)) aA_no
  exact ⟨(a, t), vk_R.of (hts _ (List.mem_of_getElem? (i := 920) rfl)) q1, ⟨cA, q3, q5, by rw [q6]; exact q2, aA_no a (Array.getElem?_eq_some_iff.mp q3).1⟩, vk_OFof q1 ht aA_no, vk_OFof q1 (va_eqt (hs _ (List.mem_of_getElem? (i := 450) rfl))) aA_no, hT⟩
set_option maxRecDepth 100000 in
set_option maxHeartbeats 4000000 in
theorem ss_26 {s : State} {b : Nat} (hts : ∀ w ∈ lw_tbl, w.before #[Value.ref b] s = true) (hs : ∀ c ∈ flatC (Jvm.Cond.and given_1 narrow_1), c.before #[Value.ref b] s = true) : ∃ q : Nat × Nat, vk_R "RubberHall$SheetReader" 78 "slow" q.1 s ∧ va_O "java/lang/String" q.1 (aA s.heap.size) s s.heap ∧ va_OF "java/lang/String" "value" "[B" (.ref q.2) q.1 (aA s.heap.size) s s.heap ∧ va_OF "java/lang/String" "coder" "B" (.int 0) q.1 (aA s.heap.size) s s.heap ∧ va_T .byte q.2 4 (fun j => .int (([115, 108, 111, 119] : List Int32).getD j 0)) (aA s.heap.size) s s.heap := by
  obtain ⟨a, c, cA, kA, q1, q2, q3, q4, q5, q6, -⟩ := Cond.exactly_spec (args := #[Value.ref b]) (first := s) (o := none) (s := s) (idx := []) (t := (Term.string "RubberHall$SheetReader" 78)) (cls := "java/lang/String") (hs _ (List.mem_of_getElem? (i := 458) rfl))
  obtain ⟨t, ht, hT⟩ := va_Tof (args := #[Value.ref b]) (s := s) (tm := Term.field (Term.string "RubberHall$SheetReader" 78) "java/lang/String" "value" "[B") (ty := .byte) (N := 4) (f := fun j => .int (([115, 108, 111, 119] : List Int32).getD j 0)) (A := aA s.heap.size) (by decide) (hs _ (List.mem_of_getElem? (i := 460) rfl)) (va_eqt (hs _ (List.mem_of_getElem? (i := 461) rfl))) (fun j hj => by
    match j, hj with
    | 0, _ => exact va_eqt (hs _ (List.mem_of_getElem? (i := 462) rfl))
    | 1, _ => exact va_eqt (hs _ (List.mem_of_getElem? (i := 463) rfl))
    | 2, _ => exact va_eqt (hs _ (List.mem_of_getElem? (i := 464) rfl))
    | 3, _ => exact va_eqt (hs _ (List.mem_of_getElem? (i := 465) rfl))
    | j + 4, h => exact absurd h (by omega)) aA_no
  exact ⟨(a, t), vk_R.of (hts _ (List.mem_of_getElem? (i := 922) rfl)) q1, ⟨cA, q3, q5, by rw [q6]; exact q2, aA_no a (Array.getElem?_eq_some_iff.mp q3).1⟩, vk_OFof q1 ht aA_no, vk_OFof q1 (va_eqt (hs _ (List.mem_of_getElem? (i := 459) rfl))) aA_no, hT⟩
set_option maxRecDepth 100000 in
set_option maxHeartbeats 4000000 in
theorem ss_27 {s : State} {b : Nat} (hts : ∀ w ∈ lw_tbl, w.before #[Value.ref b] s = true) (hs : ∀ c ∈ flatC (Jvm.Cond.and given_1 narrow_1), c.before #[Value.ref b] s = true) : ∃ q : Nat × Nat, vk_R "RubberHall$SheetReader" 80 "cold" q.1 s ∧ va_O "java/lang/String" q.1 (aA s.heap.size) s s.heap ∧ va_OF "java/lang/String" "value" "[B" (.ref q.2) q.1 (aA s.heap.size) s s.heap ∧ va_OF "java/lang/String" "coder" "B" (.int 0) q.1 (aA s.heap.size) s s.heap ∧ va_T .byte q.2 4 (fun j => .int (([99, 111, 108, 100] : List Int32).getD j 0)) (aA s.heap.size) s s.heap := by
  obtain ⟨a, c, cA, kA, q1, q2, q3, q4, q5, q6, -⟩ := Cond.exactly_spec (args := #[Value.ref b]) (first := s) (o := none) (s := s) (idx := []) (t := (Term.string "RubberHall$SheetReader" 80)) (cls := "java/lang/String") (hs _ (List.mem_of_getElem? (i := 466) rfl))
  obtain ⟨t, ht, hT⟩ := va_Tof (args := #[Value.ref b]) (s := s) (tm := Term.field (Term.string "RubberHall$SheetReader" 80) "java/lang/String" "value" "[B") (ty := .byte) (N := 4) (f := fun j => .int (([99, 111, 108, 100] : List Int32).getD j 0)) (A := aA s.heap.size) (by decide) (hs _ (List.mem_of_getElem? (i := 468) rfl)) (va_eqt (hs _ (List.mem_of_getElem? (i := 469) rfl))) (fun j hj => by
    match j, hj with
    | 0, _ => exact va_eqt (hs _ (List.mem_of_getElem? (i := 470) rfl))
    | 1, _ => exact va_eqt (hs _ (List.mem_of_getElem? (i := 471) rfl))
    | 2, _ => exact va_eqt (hs _ (List.mem_of_getElem? (i := 472) rfl))
    | 3, _ => exact va_eqt (hs _ (List.mem_of_getElem? (i := 473) rfl))
    | j + 4, h => exact absurd h (by omega)) aA_no
  exact ⟨(a, t), vk_R.of (hts _ (List.mem_of_getElem? (i := 923) rfl)) q1, ⟨cA, q3, q5, by rw [q6]; exact q2, aA_no a (Array.getElem?_eq_some_iff.mp q3).1⟩, vk_OFof q1 ht aA_no, vk_OFof q1 (va_eqt (hs _ (List.mem_of_getElem? (i := 467) rfl))) aA_no, hT⟩
set_option maxRecDepth 100000 in
set_option maxHeartbeats 4000000 in
theorem ss_28 {s : State} {b : Nat} (hts : ∀ w ∈ lw_tbl, w.before #[Value.ref b] s = true) (hs : ∀ c ∈ flatC (Jvm.Cond.and given_1 narrow_1), c.before #[Value.ref b] s = true) : ∃ q : Nat × Nat, vk_R "RubberHall$Tape" 48 ";()+-*/<=" q.1 s ∧ va_O "java/lang/String" q.1 (aA s.heap.size) s s.heap ∧ va_OF "java/lang/String" "value" "[B" (.ref q.2) q.1 (aA s.heap.size) s s.heap ∧ va_OF "java/lang/String" "coder" "B" (.int 0) q.1 (aA s.heap.size) s s.heap ∧ va_T .byte q.2 9 (fun j => .int (([59, 40, 41, 43, 45, 42, 47, 60, 61] : List Int32).getD j 0)) (aA s.heap.size) s s.heap := by
  obtain ⟨a, c, cA, kA, q1, q2, q3, q4, q5, q6, -⟩ := Cond.exactly_spec (args := #[Value.ref b]) (first := s) (o := none) (s := s) (idx := []) (t := (Term.string "RubberHall$Tape" 48)) (cls := "java/lang/String") (hs _ (List.mem_of_getElem? (i := 106) rfl))
  obtain ⟨t, ht, hT⟩ := va_Tof (args := #[Value.ref b]) (s := s) (tm := Term.field (Term.string "RubberHall$Tape" 48) "java/lang/String" "value" "[B") (ty := .byte) (N := 9) (f := fun j => .int (([59, 40, 41, 43, 45, 42, 47, 60, 61] : List Int32).getD j 0)) (A := aA s.heap.size) (by decide) (hs _ (List.mem_of_getElem? (i := 108) rfl)) (va_eqt (hs _ (List.mem_of_getElem? (i := 109) rfl))) (fun j hj => by
    match j, hj with
    | 0, _ => exact va_eqt (hs _ (List.mem_of_getElem? (i := 110) rfl))
    | 1, _ => exact va_eqt (hs _ (List.mem_of_getElem? (i := 111) rfl))
    | 2, _ => exact va_eqt (hs _ (List.mem_of_getElem? (i := 112) rfl))
    | 3, _ => exact va_eqt (hs _ (List.mem_of_getElem? (i := 113) rfl))
    | 4, _ => exact va_eqt (hs _ (List.mem_of_getElem? (i := 114) rfl))
    | 5, _ => exact va_eqt (hs _ (List.mem_of_getElem? (i := 115) rfl))
    | 6, _ => exact va_eqt (hs _ (List.mem_of_getElem? (i := 116) rfl))
    | 7, _ => exact va_eqt (hs _ (List.mem_of_getElem? (i := 117) rfl))
    | 8, _ => exact va_eqt (hs _ (List.mem_of_getElem? (i := 118) rfl))
    | j + 9, h => exact absurd h (by omega)) aA_no
  exact ⟨(a, t), vk_R.of (hts _ (List.mem_of_getElem? (i := 598) rfl)) q1, ⟨cA, q3, q5, by rw [q6]; exact q2, aA_no a (Array.getElem?_eq_some_iff.mp q3).1⟩, vk_OFof q1 ht aA_no, vk_OFof q1 (va_eqt (hs _ (List.mem_of_getElem? (i := 107) rfl))) aA_no, hT⟩
set_option maxRecDepth 100000 in
set_option maxHeartbeats 4000000 in
theorem ss_29 {s : State} {b : Nat} (hts : ∀ w ∈ lw_tbl, w.before #[Value.ref b] s = true) (hs : ∀ c ∈ flatC (Jvm.Cond.and given_1 narrow_1), c.before #[Value.ref b] s = true) : ∃ q : Nat × Nat, vk_R "RubberHall$Tape" 84 "less" q.1 s ∧ va_O "java/lang/String" q.1 (aA s.heap.size) s s.heap ∧ va_OF "java/lang/String" "value" "[B" (.ref q.2) q.1 (aA s.heap.size) s s.heap ∧ va_OF "java/lang/String" "coder" "B" (.int 0) q.1 (aA s.heap.size) s s.heap ∧ va_T .byte q.2 4 (fun j => .int (([108, 101, 115, 115] : List Int32).getD j 0)) (aA s.heap.size) s s.heap := by
  obtain ⟨a, c, cA, kA, q1, q2, q3, q4, q5, q6, -⟩ := Cond.exactly_spec (args := #[Value.ref b]) (first := s) (o := none) (s := s) (idx := []) (t := (Term.string "RubberHall$Tape" 84)) (cls := "java/lang/String") (hs _ (List.mem_of_getElem? (i := 441) rfl))
  obtain ⟨t, ht, hT⟩ := va_Tof (args := #[Value.ref b]) (s := s) (tm := Term.field (Term.string "RubberHall$Tape" 84) "java/lang/String" "value" "[B") (ty := .byte) (N := 4) (f := fun j => .int (([108, 101, 115, 115] : List Int32).getD j 0)) (A := aA s.heap.size) (by decide) (hs _ (List.mem_of_getElem? (i := 443) rfl)) (va_eqt (hs _ (List.mem_of_getElem? (i := 444) rfl))) (fun j hj => by
    match j, hj with
    | 0, _ => exact va_eqt (hs _ (List.mem_of_getElem? (i := 445) rfl))
    | 1, _ => exact va_eqt (hs _ (List.mem_of_getElem? (i := 446) rfl))
    | 2, _ => exact va_eqt (hs _ (List.mem_of_getElem? (i := 447) rfl))
    | 3, _ => exact va_eqt (hs _ (List.mem_of_getElem? (i := 448) rfl))
    | j + 4, h => exact absurd h (by omega)) aA_no
  exact ⟨(a, t), vk_R.of (hts _ (List.mem_of_getElem? (i := 919) rfl)) q1, ⟨cA, q3, q5, by rw [q6]; exact q2, aA_no a (Array.getElem?_eq_some_iff.mp q3).1⟩, vk_OFof q1 ht aA_no, vk_OFof q1 (va_eqt (hs _ (List.mem_of_getElem? (i := 442) rfl))) aA_no, hT⟩
set_option maxRecDepth 100000 in
theorem si_0 {s : State} {b : Nat} (hts : ∀ w ∈ lw_tbl, w.before #[Value.ref b] s = true) (hs : ∀ c ∈ flatC (Jvm.Cond.and given_1 narrow_1), c.before #[Value.ref b] s = true) : va_Z "java/lang/String" "COMPACT_STRINGS" "Z" (.int 1) (aA s.heap.size) s s.heap :=
  va_Zof (args := #[Value.ref b]) (hts _ (List.mem_of_getElem? (i := 612) rfl)) (hts _ (List.mem_of_getElem? (i := 118) rfl)) (va_eqi (hs _ (List.mem_of_getElem? (i := 22) rfl))) aA_no
set_option maxRecDepth 100000 in
/-- the static that is null or any reference -/
theorem sf_0 {s : State} {b : Nat} (hts : ∀ w ∈ lw_tbl, w.before #[Value.ref b] s = true) (hs : ∀ c ∈ flatC (Jvm.Cond.and given_1 narrow_1), c.before #[Value.ref b] s = true) : ∃ z : Nat, va_Z "jdk/internal/util/Preconditions" "SIOOBE_FORMATTER" "Ljava/util/function/BiFunction;" (match z with
  | 0 => .null
  | k + 1 => .ref k) (aA s.heap.size) s s.heap := by
  rcases va_Zqof (args := #[Value.ref b]) (hts _ (List.mem_of_getElem? (i := 653) rfl)) (hts _ (List.mem_of_getElem? (i := 122) rfl)) (hs _ (List.mem_of_getElem? (i := 23) rfl)) aA_no with h | ⟨t, h⟩
  · exact ⟨0, h⟩
  · exact ⟨t + 1, h⟩
set_option maxRecDepth 100000 in
theorem sz_0 {s : State} {b : Nat} (hts : ∀ w ∈ lw_tbl, w.before #[Value.ref b] s = true) (hs : ∀ c ∈ flatC (Jvm.Cond.and given_1 narrow_1), c.before #[Value.ref b] s = true) : vx_Zq Bundle.tN "UNASSIGNED_STACK" Bundle.steD (aA s.heap.size) s s.heap :=
  vx_Zqof (args := #[Value.ref b]) (hts _ (List.mem_of_getElem? (i := 543) rfl)) (hts _ (List.mem_of_getElem? (i := 114) rfl)) (hs _ (List.mem_of_getElem? (i := 20) rfl)) aA_no
set_option maxRecDepth 100000 in
theorem sz_1 {s : State} {b : Nat} (hts : ∀ w ∈ lw_tbl, w.before #[Value.ref b] s = true) (hs : ∀ c ∈ flatC (Jvm.Cond.and given_1 narrow_1), c.before #[Value.ref b] s = true) : vx_Zq Bundle.tN "SUPPRESSED_SENTINEL" Bundle.listD (aA s.heap.size) s s.heap :=
  vx_Zqof (args := #[Value.ref b]) (hts _ (List.mem_of_getElem? (i := 545) rfl)) (hts _ (List.mem_of_getElem? (i := 114) rfl)) (hs _ (List.mem_of_getElem? (i := 21) rfl)) aA_no
set_option maxRecDepth 100000 in
theorem snc {s : State} {b : Nat} (hts : ∀ w ∈ lw_tbl, w.before #[Value.ref b] s = true) (hs : ∀ c ∈ flatC (Jvm.Cond.and given_1 narrow_1), c.before #[Value.ref b] s = true) : va_Nc "java/lang/IllegalArgumentException" "java/util/NoSuchElementException" s := va_Nc.of (args := #[Value.ref b]) (hs _ (List.mem_of_getElem? (i := 105) rfl))
