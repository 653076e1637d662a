/-! ===== the small methods ===== -/
section PGet
variable {G : Nat × (Nat → Int32)} {d : Nat} {σ : aH}
theorem s_cell {r n i : Nat} {x : Int32} (hr : tkd G.1 G.2 r = .inl (0, n)) (hx : x = Int32.ofNat i) (hi : i < n) (hn : n < 2147483648) : Rn G (d + 1) 32 [.ref r, .int x] σ = oI ((σ.1 r i)) σ := by
  subst hx
  rw [e_Rh_cell, if_neg (pN_n0 (by omega))]
  unfold aLen aArr
  rw [hr]
  show (if Int32.ofNat n ≤ Int32.ofNat i then oI ((0 : Int32)) σ else aIx (Int32.ofNat i) n fun j2 => oI ((σ.1 r j2)) σ) = _
  rw [if_neg (fun h => absurd ((pN_le hn (by omega)).mp h) (by omega)), pIx hi hn]
theorem s_cellC {r n i : Nat} {x : Int32} {g : Nat → Int32} (hr : tkd G.1 G.2 r = .inr (.inr (.inl (0, n, g)))) (hx : x = Int32.ofNat i) (hi : i < n) (hn : n < 2147483648) : Rn G (d + 1) 32 [.ref r, .int x] σ = oI ((g i)) σ := by
  subst hx
  rw [e_Rh_cell, if_neg (pN_n0 (by omega))]
  unfold aLen aArr
  rw [hr]
  show (if Int32.ofNat n ≤ Int32.ofNat i then oI ((0 : Int32)) σ else aIx (Int32.ofNat i) n fun j2 => oI ((g j2)) σ) = _
  rw [if_neg (fun h => absurd ((pN_le hn (by omega)).mp h) (by omega)), pIx hi hn]
/-- outside of the row -/
theorem s_cellO {r n : Nat} {x : Int32} (hr : tkd G.1 G.2 r = .inl (0, n)) (hx : x < 0 ∨ Int32.ofNat n ≤ x) : Rn G (d + 1) 32 [.ref r, .int x] σ = oI (0) σ := by
  rw [e_Rh_cell]
  by_cases h : x < 0
  · rw [if_pos h]
  · rw [if_neg h]
    unfold aLen
    rw [hr]
    show (if Int32.ofNat n ≤ x then oI ((0 : Int32)) σ else _) = _
    rw [if_pos (hx.resolve_left h)]
theorem s_put {r n i : Nat} {x v : Int32} (hr : tkd G.1 G.2 r = .inl (0, n)) (hx : x = Int32.ofNat i) (hi : i < n) (hn : n < 2147483648) : Rn G (d + 1) 24 [.ref r, .int x, .int v] σ = oV (aSI σ r i v) := by
  subst hx
  rw [e_Rh_put, if_neg (pN_n0 (by omega))]
  unfold aLen aArS
  rw [hr]
  show (if Int32.ofNat n ≤ Int32.ofNat i then oV σ else aIx (Int32.ofNat i) n fun j2 => oV (aSI σ r j2 v)) = _
  rw [if_neg (fun h => absurd ((pN_le hn (by omega)).mp h) (by omega)), pIx hi hn]
theorem s_putO {r n : Nat} {x v : Int32} (hr : tkd G.1 G.2 r = .inl (0, n)) (hx : x < 0 ∨ Int32.ofNat n ≤ x) : Rn G (d + 1) 24 [.ref r, .int x, .int v] σ = oV σ := by
  rw [e_Rh_put]
  by_cases h : x < 0
  · rw [if_pos h]
  · rw [if_neg h]
    unfold aLen
    rw [hr]
    show (if Int32.ofNat n ≤ x then oV σ else _) = _
    rw [if_pos (hx.resolve_left h)]
theorem pIdx (a b i w : Nat) : (Int32.ofNat a + Int32.ofNat i * Int32.ofNat b) + Int32.ofNat w = Int32.ofNat (a + i * b + w) := by
  rw [Int32.ofNat_add, Int32.ofNat_add, Int32.ofNat_mul]
/-- the rows of a house: where each kind begins, and how wide it is -/
def pFst (k : Nat) : Nat := match k with
  | 0 => 0
  | 1 => 120
  | 2 => 240
  | 3 => 270
  | _ => 282
def pWid (k : Nat) : Nat := match k with
  | 0 => 6
  | 1 => 6
  | 2 => 5
  | 3 => 1
  | _ => 1
theorem s_first {x : Int32} {k : Nat} (hx : x = Int32.ofNat k) (hk : k < 5) : Rn G (d + 1) 32 [.ref 64, .int x] σ = oI ((Int32.ofNat (pFst k))) σ := by
  rw [s_cellC (n := 5) (i := k) (g := fun k => ([0, 120, 240, 270, 282] : List Int32).getD k 0) rfl hx hk (by decide)]
  rcases (show k = 0 ∨ k = 1 ∨ k = 2 ∨ k = 3 ∨ k = 4 by omega) with rfl | rfl | rfl | rfl | rfl <;> rfl
theorem s_width {x : Int32} {k : Nat} (hx : x = Int32.ofNat k) (hk : k < 5) : Rn G (d + 1) 32 [.ref 66, .int x] σ = oI ((Int32.ofNat (pWid k))) σ := by
  rw [s_cellC (n := 5) (i := k) (g := fun k => ([6, 6, 5, 1, 1] : List Int32).getD k 0) rfl hx hk (by decide)]
  rcases (show k = 0 ∨ k = 1 ∨ k = 2 ∨ k = 3 ∨ k = 4 by omega) with rfl | rfl | rfl | rfl | rfl <;> rfl
theorem s_told {k i w : Nat} {x1 x2 x3 : Int32} (h1 : x1 = Int32.ofNat k) (h2 : x2 = Int32.ofNat i) (h3 : x3 = Int32.ofNat w) (hk : k < 5) (hi : pFst k + i * pWid k + w < 286) : Rn G (d + 2) 119 [.ref 3, .int x1, .int x2, .int x3] σ = oI ((σ.1 5 (pFst k + i * pWid k + w))) σ := by
  rw [e_Rh_House_told, s_first h1 hk, pCI, s_width h1 hk, pCI, s_cell (r := 5) (n := 286) (i := pFst k + i * pWid k + w) rfl (by rw [h2, h3, pIdx]) hi (by decide), pCI]
theorem s_toldP {i w : Nat} {x2 x3 : Int32} (h2 : x2 = Int32.ofNat i) (h3 : x3 = Int32.ofNat w) (hi : i < 20) (hw : w < 6) : Rn G (d + 2) 119 [.ref 3, .int 0, .int x2, .int x3] σ = oI ((σ.1 5 (6 * i + w))) σ := by
  have h := s_told (G := G) (d := d) (σ := σ) (k := 0) (x1 := 0) rfl h2 h3 (by decide) (by show 0 + i * 6 + w < 286; omega)
  rw [h, show pFst 0 + i * pWid 0 + w = 6 * i + w from by show 0 + i * 6 + w = _; omega]
theorem s_toldS {i w : Nat} {x2 x3 : Int32} (h2 : x2 = Int32.ofNat i) (h3 : x3 = Int32.ofNat w) (hi : i < 20) (hw : w < 6) : Rn G (d + 2) 119 [.ref 3, .int 1, .int x2, .int x3] σ = oI ((σ.1 5 (120 + (6 * i + w)))) σ := by
  have h := s_told (G := G) (d := d) (σ := σ) (k := 1) (x1 := 1) rfl h2 h3 (by decide) (by show 120 + i * 6 + w < 286; omega)
  rw [h, show pFst 1 + i * pWid 1 + w = 120 + (6 * i + w) from by show 120 + i * 6 + w = _; omega]
theorem s_toldL {i w : Nat} {x2 x3 : Int32} (h2 : x2 = Int32.ofNat i) (h3 : x3 = Int32.ofNat w) (hi : i < 6) (hw : w < 5) : Rn G (d + 2) 119 [.ref 3, .int 2, .int x2, .int x3] σ = oI ((σ.1 5 (240 + (5 * i + w)))) σ := by
  have h := s_told (G := G) (d := d) (σ := σ) (k := 2) (x1 := 2) rfl h2 h3 (by decide) (by show 240 + i * 5 + w < 286; omega)
  rw [h, show pFst 2 + i * pWid 2 + w = 240 + (5 * i + w) from by show 240 + i * 5 + w = _; omega]
theorem s_toldN {i : Nat} {x2 : Int32} (h2 : x2 = Int32.ofNat i) (hi : i < 12) : Rn G (d + 2) 119 [.ref 3, .int 3, .int x2, .int 0] σ = oI ((σ.1 5 (270 + i))) σ := by
  have h := s_told (G := G) (d := d) (σ := σ) (k := 3) (w := 0) (x1 := 3) (x3 := 0) rfl h2 rfl (by decide) (by show 270 + i * 1 + 0 < 286; omega)
  rw [h, show pFst 3 + i * pWid 3 + 0 = 270 + i from by show 270 + i * 1 + 0 = _; omega]
theorem s_toldR {i : Nat} {x2 : Int32} (h2 : x2 = Int32.ofNat i) (hi : i < 4) : Rn G (d + 2) 119 [.ref 3, .int 4, .int x2, .int 0] σ = oI ((σ.1 5 (282 + i))) σ := by
  have h := s_told (G := G) (d := d) (σ := σ) (k := 4) (w := 0) (x1 := 4) (x3 := 0) rfl h2 rfl (by decide) (by show 282 + i * 1 + 0 < 286; omega)
  rw [h, show pFst 4 + i * pWid 4 + 0 = 282 + i from by show 282 + i * 1 + 0 = _; omega]
theorem s_howMany {x : Int32} {k : Nat} (hx : x = Int32.ofNat k) (hk : k < 5) : Rn G (d + 2) 98 [.ref 3, .int x] σ = oI ((σ.1 4 k)) σ := by
  rw [e_Rh_House_howMany, s_cell (r := 4) (n := 5) rfl hx hk (by decide), pCI]
theorem s_has {x1 x2 : Int32} {k n : Nat} (hx : x1 = Int32.ofNat k) (hk : k < 5) (hn : σ.1 4 k = Int32.ofNat n) : Rn G (d + 2) 103 [.ref 3, .int x1, .int x2] σ = oI ((if 0 ≤ x2 ∧ x2 < Int32.ofNat n then 1 else 0)) σ := by
  rw [e_Rh_House_has]
  by_cases h : x2 < 0
  · rw [if_pos h, if_neg (fun h2 => absurd h (pNotLt.mpr h2.1))]
  · rw [if_neg h, s_cell (r := 4) (n := 5) rfl hx hk (by decide), pCI, hn]
    by_cases h2 : Int32.ofNat n ≤ x2
    · rw [if_pos h2, if_neg (fun h3 => absurd h3.2 (pNotLt.mpr h2))]
    · rw [if_neg h2, if_pos ⟨pNotLt.mp h, pNotLe.mp h2⟩]
theorem s_get {k c : Nat} {x1 x2 : Int32} (h1 : x1 = Int32.ofNat k) (h2 : x2 = Int32.ofNat c) (hk : 18 * k + c < 1080) : Rn G (d + 2) 117 [.ref 13, .int x1, .int x2] σ = oI ((σ.1 14 (18 * k + c))) σ := by
  rw [e_Rh_Sheets_get, s_cell (r := 14) (n := 1080) (i := 18 * k + c) rfl (by rw [h1, h2, Nat.mul_comm, Int32.ofNat_add, Int32.ofNat_mul]; rfl) hk (by decide), pCI]
theorem s_set {k c : Nat} {x1 x2 v : Int32} (h1 : x1 = Int32.ofNat k) (h2 : x2 = Int32.ofNat c) (hk : 18 * k + c < 1080) : Rn G (d + 2) 101 [.ref 13, .int x1, .int x2, .int v] σ = oV (aSI σ 14 (18 * k + c) v) := by
  rw [e_Rh_Sheets_set, s_put (r := 14) (n := 1080) (i := 18 * k + c) rfl (by rw [h1, h2, Nat.mul_comm, Int32.ofNat_add, Int32.ofNat_mul]; rfl) hk (by decide), pCV]
theorem s_hasS {x : Int32} {n : Nat} (hn : σ.1 13 1 = Int32.ofNat n) : Rn G (d + 1) 198 [.ref 13, .int x] σ = oI ((if 0 ≤ x ∧ x < Int32.ofNat n then 1 else 0)) σ := by
  rw [e_Rh_Sheets_has, hn]
  by_cases h : x < 0
  · rw [if_pos h, if_neg (fun h2 => absurd h (pNotLt.mpr h2.1))]
  · rw [if_neg h]
    by_cases h2 : Int32.ofNat n ≤ x
    · rw [if_pos h2, if_neg (fun h3 => absurd h3.2 (pNotLt.mpr h2))]
    · rw [if_neg h2, if_pos ⟨pNotLt.mp h, pNotLe.mp h2⟩]
theorem s_demand0 : Rn G (d + 1) 114 [.int 0] σ = oX 0 σ := by rw [e_Rh_demand, if_pos rfl]
theorem s_demand1 : Rn G (d + 1) 114 [.int 1] σ = oV σ := by rw [e_Rh_demand, if_neg (by decide)]
theorem s_allow0 : Rn G (d + 1) 6 [.int 0] σ = oX 1 σ := by rw [e_Rh_allow, if_pos rfl]
theorem s_allow1 : Rn G (d + 1) 6 [.int 1] σ = oV σ := by rw [e_Rh_allow, if_neg (by decide)]
theorem s_within {x a b : Int32} : Rn G (d + 1) 130 [.int x, .int a, .int b] σ = oI ((if a ≤ x ∧ x ≤ b then 1 else 0)) σ := by
  rw [e_Md_within]
  by_cases h : x < a
  · rw [if_pos h, if_neg (fun h2 => absurd h (pNotLt.mpr h2.1))]
  · rw [if_neg h]
    by_cases h2 : b < x
    · rw [if_pos h2, if_neg (fun h3 => absurd h2 (pNotLt.mpr h3.2))]
    · rw [if_neg h2, if_pos ⟨pNotLt.mp h, pNotLt.mp h2⟩]
/-- the reference's question, where nothing is thrown yet: yes -/
theorem s_right1 {w : Int32} (h : σ.1 33 0 = 0) : Rn G (d + 1) 62 [.ref 33, .int 1, .int w] σ = oI (1) σ := by
  rw [e_Md_right, if_pos h, if_neg (by decide), if_pos h]
/-- no -/
theorem s_right0 {w : Int32} (h : σ.1 33 0 = 0) (hw : w ≠ 0) : Rn G (d + 1) 62 [.ref 33, .int 0, .int w] σ = some (.inl (some (.int 0)), aSI σ 33 0 w) := by
  rw [e_Md_right, if_pos h, if_pos rfl, if_neg hw]
/-- a pull, of both sides -/
def pPull (o g t : Int32) : Int32 := if o.toInt64 * g.toInt64 + ((1000000 : Int32) - o).toInt64 * 1000 * t.toInt64 = 0 then 0 else (o.toInt64 * g.toInt64 * 1000000 / (o.toInt64 * g.toInt64 + ((1000000 : Int32) - o).toInt64 * 1000 * t.toInt64)).toInt32
theorem s_pullC {o g : Int32} : Rn G (d + 1) 165 [.ref 24, .int o, .int g] σ = oI ((pPull o g (σ.1 24 13))) σ := by
  rw [e_Rh_Head_pulled]
  unfold pPull
  by_cases h : o.toInt64 * g.toInt64 + ((1000000 : Int32) - o).toInt64 * 1000 * (σ.1 24 13).toInt64 = 0
  · rw [if_pos ((lg_cmp_eq _ _).mpr h), if_pos h]
  · rw [if_neg (fun h2 => h ((lg_cmp_eq _ _).mp h2)), if_neg h]
    unfold aNzL
    rw [if_neg h]
theorem s_pullM {o g t : Int32} : Rn G (d + 1) 171 [.int o, .int g, .int t] σ = oI ((pPull o g t)) σ := by
  rw [e_Md_pulled]
  unfold pPull
  by_cases h : o.toInt64 * g.toInt64 + ((1000000 : Int32) - o).toInt64 * 1000 * t.toInt64 = 0
  · rw [if_pos ((lg_cmp_eq _ _).mpr h), if_pos h]
  · rw [if_neg (fun h2 => h ((lg_cmp_eq _ _).mp h2)), if_neg h]
    unfold aNzL
    rw [if_neg h]
/-- a weight -/
def pWgt (x s : Int32) : Int32 := (1000000 * (s.toInt64 * s.toInt64) / (s.toInt64 * s.toInt64 + x.toInt64 * x.toInt64)).toInt32
end PGet
