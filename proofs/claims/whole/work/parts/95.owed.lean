/-! ===== each call, as a turn of the law takes it (by wip/gen/emit_end.py) ===== -/
section POwed
variable {G : Nat × (Nat → Int32)} {m : St}
theorem k_count (ho : okAll m) (x1 : Int32) : ∃ m', AskS G 113 129 [.int x1] [(0, 1)] m m' := ⟨m, (a_count ho x1).toS ho⟩
theorem k_person (ho : okAll m) (x1 x2 : Int32) : ∃ m', AskS G 139 140 [.int x1, .int x2] [(0, 1)] m m' := ⟨m, (a_person ho x1 x2).toS ho⟩
theorem k_sitting (ho : okAll m) (x1 x2 : Int32) : ∃ m', AskS G 142 143 [.int x1, .int x2] [(0, 1)] m m' := ⟨m, (a_sitting ho x1 x2).toS ho⟩
theorem k_law (ho : okAll m) (x1 x2 : Int32) : ∃ m', AskS G 145 146 [.int x1, .int x2] [(0, 1)] m m' := ⟨m, (a_law ho x1 x2).toS ho⟩
theorem k_isSaid (ho : okAll m) (x1 : Int32) : ∃ m', AskS G 148 149 [.int x1] [(0, 1)] m m' := ⟨m, (a_isSaid ho x1).toS ho⟩
theorem k_weight (ho : okAll m) (x1 x2 : Int32) : ∃ m', AskS G 151 153 [.int x1, .int x2] [(1, 1)] m m' := ⟨m, (a_weight x1 x2).toS ho⟩
theorem k_one (ho : okAll m) (x1 x2 x3 x4 : Int32) : ∃ m', AskS G 156 166 [.int x1, .int x2, .int x3, .int x4] [(0, 1), (1, 2)] m m' := ⟨m, (a_one ho x1 x2 x3 x4).toS ho⟩
theorem k_held (ho : okAll m) (x1 x2 x3 x4 : Int32) : ∃ m', AskS G 174 178 [.int x1, .int x2, .int x3, .int x4] [(0, 1)] m m' := ⟨m, (a_held ho x1 x2 x3 x4).toS ho⟩
theorem k_foretold (ho : okAll m) (x1 x2 x3 x4 : Int32) : ∃ m', AskS G 183 188 [.int x1, .int x2, .int x3, .int x4] [(0, 1)] m m' := ⟨m, (a_foretold ho x1 x2 x3 x4).toS ho⟩
theorem k_value (ho : okAll m) (x1 x2 : Int32) : ∃ m', AskS G 207 209 [.int x1, .int x2] [(0, 1)] m m' := ⟨m, (a_value ho x1 x2).toS ho⟩
theorem k_credit (ho : okAll m) (x1 : Int32) : ∃ m', AskS G 219 225 [.int x1] [(0, 1)] m m' := ⟨m, (a_credit ho x1).toS ho⟩
theorem k_fails (ho : okAll m) (x1 x2 : Int32) : ∃ m', AskS G 231 238 [.int x1, .int x2] [(0, 1)] m m' := ⟨m, (a_fails ho x1 x2).toS ho⟩
theorem k_apart (ho : okAll m) (x1 : Int32) : ∃ m', AskS G 244 246 [.int x1] [(0, 1)] m m' := ⟨m, (a_apart ho x1).toS ho⟩
theorem k_beside (ho : okAll m) (x1 x2 x3 x4 : Int32) : ∃ m', AskS G 248 258 [.int x1, .int x2, .int x3, .int x4] [(0, 1)] m m' := ⟨m, (a_beside ho x1 x2 x3 x4).toS ho⟩
theorem k_wished (ho : okAll m) (x1 : Int32) : ∃ m', AskS G 260 263 [.int x1] [(0, 1)] m m' := ⟨m, (a_wished ho x1).toS ho⟩
theorem k_slope (ho : okAll m) (x1 : Int32) : ∃ m', AskS G 265 268 [.int x1] [(0, 1), (1, 2)] m m' := ⟨m, (a_slope ho x1).toS ho⟩
theorem k_share (ho : okAll m) (x1 : Int32) : ∃ m', AskS G 271 272 [.int x1] [(0, 1), (1, 2)] m m' := ⟨m, (a_share ho x1).toS ho⟩
theorem k_parts (ho : okAll m) (x1 : Int32) : ∃ m', AskS G 274 277 [.int x1] [(0, 1)] m m' := ⟨m, (a_parts ho x1).toS ho⟩
theorem k_looked (ho : okAll m) (x1 x2 x3 : Int32) : ∃ m', AskS G 282 283 [.int x1, .int x2, .int x3] [(1, 1)] m m' := ⟨m, (a_looked ho x1 x2 x3).toS ho⟩
theorem k_at (ho : okAll m) (x1 x2 x3 x4 : Int32) : ∃ m', AskS G 285 287 [.int x1, .int x2, .int x3, .int x4] [(0, 1), (1, 2)] m m' := ⟨m, (a_at ho x1 x2 x3 x4).toS ho⟩
theorem k_falls (ho : okAll m) (x1 x2 x3 x4 : Int32) : ∃ m', AskS G 290 293 [.int x1, .int x2, .int x3, .int x4] [(0, 1)] m m' := ⟨m, (a_falls ho x1 x2 x3 x4).toS ho⟩
theorem k_spans (ho : okAll m) (x1 x2 x3 : Int32) : ∃ m', AskS G 295 299 [.int x1, .int x2, .int x3] [(0, 1)] m m' := ⟨m, (a_spans ho x1 x2 x3).toS ho⟩
theorem k_cold (ho : okAll m) (x1 : Int32) : ∃ m', AskS G 301 306 [.int x1] [(0, 1)] m m' := ⟨m, (a_cold ho x1).toS ho⟩
end POwed
