/-! ===== AN ABSTRACT MACHINE: objects are numbers, their ints and longs two functions; the code is a table, resolved ahead. ===== -/
/-- ints (fields by place, arrays by index) and longs of each object -/
abbrev aH : Type := (Nat → Nat → Int32) × (Nat → Nat → Int64)
abbrev aSt : Type := Nat × List (Option Value) × List Value × aH
abbrev aRs : Type := Option Value ⊕ Nat
/-- what an object is: an array (element type, length); an object (class, fields: a reference, or 0 int, 1 long, 2 boolean); a constant array; a constant object (class, its name, fields) -/
abbrev aKd : Type := (Nat × Nat) ⊕ ((Nat × List (Nat ⊕ Nat)) ⊕ ((Nat × Nat × (Nat → Int32)) ⊕ (Nat × String × List Value)))
/-- a row of code: the instruction, its number, its places (targets, field, method), its constant -/
abbrev aEn : Type := Instr × Int32 × List Nat × Value
/-- a method: its result, its locals, its code, locals that are dead at a place, handlers (place, exception, goes on) if it has a table -/
abbrev aMt : Type := Option FieldType × Nat × List (Nat × aEn) × List (Nat × List Nat) × Option (List (Nat × Nat × Nat))
def aLook {α : Type} (pc : Nat) : List (Nat × α) → Option α
  | [] => none
  | q :: l => match Nat.beq q.1 pc with
    | true => some q.2
    | false => aLook pc l
def aKills : List Nat → List (Option Value) → List (Option Value)
  | [], L => L
  | i :: ks, L => aKills ks (L.set i none)
def aDead (kl : List (Nat × List Nat)) (pc : Nat) (L : List (Option Value)) : List (Option Value) := match aLook pc kl with
  | some ks => aKills ks L
  | none => L
def aKl (L : List (Option Value)) (i : Nat) : List (Option Value) := match i with
  | 0 => L
  | j + 1 => match L[j]? with
    | some (some (.long _)) => L.set j none
    | some (some (.double _)) => L.set j none
    | _ => L
def aS1 (L : List (Option Value)) (i : Nat) (v : Value) : List (Option Value) := (aKl L i).set i (some v)
def aS2 (L : List (Option Value)) (i : Nat) (v : Value) : List (Option Value) := ((aKl L i).set i (some v)).set (i + 1) none
def aSI (σ : aH) (a j : Nat) (x : Int32) : aH := (fun o => match Nat.beq o a with
  | true => upd (σ.1 o) j x
  | false => σ.1 o, σ.2)
def aSL (σ : aH) (a j : Nat) (x : Int64) : aH := (σ.1, fun o => match Nat.beq o a with
  | true => vp_updL (σ.2 o) j x
  | false => σ.2 o)
/-- a copy of the first n of one array into another -/
def aCp (σ : aH) (a b n : Nat) : aH := (fun o => match Nat.beq o b with
  | true => fun k => if k < n then σ.1 a k else σ.1 o k
  | false => σ.1 o, σ.2)
section AMs
variable {ρ : Type}
def aLdR (L : List (Option Value)) (i : Nat) (f : Nat → Option ρ) : Option ρ := match L[i]? with
  | some (some (.ref x)) => f x
  | _ => none
def aLdI (L : List (Option Value)) (i : Nat) (f : Int32 → Option ρ) : Option ρ := match L[i]? with
  | some (some (.int x)) => f x
  | _ => none
def aLdL (L : List (Option Value)) (i : Nat) (f : Int64 → Option ρ) : Option ρ := match L[i]? with
  | some (some (.long x)) => f x
  | _ => none
def aPI (S : List Value) (f : Int32 → List Value → Option ρ) : Option ρ := match S with
  | .int x :: S => f x S
  | _ => none
def aPL (S : List Value) (f : Int64 → List Value → Option ρ) : Option ρ := match S with
  | .long x :: S => f x S
  | _ => none
def aPR (S : List Value) (f : Nat → List Value → Option ρ) : Option ρ := match S with
  | .ref x :: S => f x S
  | _ => none
def aPV (S : List Value) (f : Value → List Value → Option ρ) : Option ρ := match S with
  | v :: S => f v S
  | _ => none
def aPII (S : List Value) (f : Int32 → Int32 → List Value → Option ρ) : Option ρ := aPI S fun y S => aPI S fun x S => f x y S
def aPLL (S : List Value) (f : Int64 → Int64 → List Value → Option ρ) : Option ρ := aPL S fun y S => aPL S fun x S => f x y S
def aOne (ns : List Nat) (f : Nat → Option ρ) : Option ρ := match ns with
  | [t] => f t
  | _ => none
def aTwo (ns : List Nat) (f : Nat → Nat → Option ρ) : Option ρ := match ns with
  | [t, u] => f t u
  | _ => none
/-- an index that lies within -/
def aIx (i : Int32) (n : Nat) (f : Nat → Option ρ) : Option ρ := if i < 0 ∨ n ≤ i.toNatClampNeg then none else f i.toNatClampNeg
def aNz (y : Int32) (f : Option ρ) : Option ρ := if y = 0 then none else f
def aNzL (y : Int64) (f : Option ρ) : Option ρ := if y = 0 then none else f
/-- a value of a narrow type as it is -/
def aNar (ty : FieldType) (x : Int32) (f : Option ρ) : Option ρ := match ty with
  | .int => f
  | .boolean => if x = 0 ∨ x = 1 then f else none
  | ty => if narrow ty (.int x) = .int x then f else none
def aCmp (c : ClassFile.Cond) (x y : Int32) (a b : Option ρ) : Option ρ := match c with
  | .eq => if x = y then a else b
  | .ne => if x = y then b else a
  | .lt => if x < y then a else b
  | .ge => if y ≤ x then a else b
  | .gt => if y < x then a else b
  | .le => if x ≤ y then a else b
def aSw (x lo : Int32) (f : Nat → Option ρ) (d : Nat) : List Nat → Option ρ
  | [] => f d
  | t :: ts => if x = lo then f t else aSw x (lo + 1) f d ts
def aDf (ns : List Nat) (f : Nat → List Nat → Option ρ) : Option ρ := match ns with
  | d :: ts => f d ts
  | [] => none
def aGet (kd : Nat → aKd) (ci k : Nat) (b : Nat) (σ : aH) (f : Value → Option ρ) : Option ρ := match kd b with
  | .inr (.inl (c, fl)) => match Nat.beq c ci with
    | true => match fl[k]? with
      | some (.inl r) => f (.ref r)
      | some (.inr 1) => f (.long (σ.2 b k))
      | some (.inr _) => f (.int (σ.1 b k))
      | none => none
    | false => none
  | .inr (.inr (.inr (c, _, vs))) => match Nat.beq c ci with
    | true => match vs[k]? with
      | some v => f v
      | none => none
    | false => none
  | _ => none
def aPut (kd : Nat → aKd) (ci k : Nat) (b : Nat) (v : Value) (σ : aH) (f : aH → Option ρ) : Option ρ := match kd b with
  | .inr (.inl (c, fl)) => match Nat.beq c ci with
    | true => match fl[k]?, v with
      | some (.inr 0), .int x => f (aSI σ b k x)
      | some (.inr 1), .long x => f (aSL σ b k x)
      | some (.inr 2), .int x => aNar .boolean x (f (aSI σ b k x))
      | _, _ => none
    | false => none
  | _ => none
def aArr (kd : Nat → aKd) (t a : Nat) (σ : aH) (f : Nat → (Nat → Int32) → Option ρ) : Option ρ := match kd a with
  | .inl (t', n) => match Nat.beq t' t with
    | true => f n (σ.1 a)
    | false => none
  | .inr (.inr (.inl (t', n, g))) => match Nat.beq t' t with
    | true => f n g
    | false => none
  | _ => none
/-- bytes or booleans -/
def aArB (kd : Nat → aKd) (a : Nat) (σ : aH) (f : Nat → (Nat → Int32) → Option ρ) : Option ρ := match kd a with
  | .inl (1, n) => f n (σ.1 a)
  | .inl (2, n) => f n (σ.1 a)
  | .inr (.inr (.inl (1, n, g))) => f n g
  | _ => none
def aArL (kd : Nat → aKd) (a : Nat) (σ : aH) (f : Nat → (Nat → Int64) → Option ρ) : Option ρ := match kd a with
  | .inl (3, n) => f n (σ.2 a)
  | _ => none
def aArS (kd : Nat → aKd) (t a : Nat) (f : Nat → Option ρ) : Option ρ := match kd a with
  | .inl (t', n) => match Nat.beq t' t with
    | true => f n
    | false => none
  | _ => none
def aLen (kd : Nat → aKd) (a : Nat) (f : Nat → Option ρ) : Option ρ := match kd a with
  | .inl (_, n) => f n
  | .inr (.inr (.inl (t, n, _))) => match Nat.ble 4 t with
    | true => none
    | false => f n
  | _ => none
/-- what a call gives: nothing, an int, a long; or it throws -/
def aCV (r : Option (aRs × aH)) (f : aH → Option ρ) : Option ρ := match r with
  | some (.inl none, σ) => f σ
  | _ => none
def aCI (r : Option (aRs × aH)) (f : Int32 → aH → Option ρ) : Option ρ := match r with
  | some (.inl (some (.int v)), σ) => f v σ
  | _ => none
def aCL (r : Option (aRs × aH)) (f : Int64 → aH → Option ρ) : Option ρ := match r with
  | some (.inl (some (.long v)), σ) => f v σ
  | _ => none
def aXV (r : Option (aRs × aH)) (f : aH → Option ρ) (g : Nat → aH → Option ρ) : Option ρ := match r with
  | some (.inl none, σ) => f σ
  | some (.inr k, σ) => g k σ
  | _ => none
def aXI (r : Option (aRs × aH)) (f : Int32 → aH → Option ρ) (g : Nat → aH → Option ρ) : Option ρ := match r with
  | some (.inl (some (.int v)), σ) => f v σ
  | some (.inr k, σ) => g k σ
  | _ => none
def aHd (pc k : Nat) : List (Nat × Nat × Nat) → Option Nat
  | [] => none
  | (p, j, t) :: l => match Nat.beq p pc && Nat.beq j k with
    | true => some t
    | false => aHd pc k l
/-- a call's exception in this method: on, or out -/
def aTh (hd : Option (List (Nat × Nat × Nat))) (pc k : Nat) (go : Nat → Option ρ) (out : Option ρ) : Option ρ := match hd with
  | none => out
  | some l => match aHd pc k l with
    | some t => go t
    | none => none
/-- the receiver is of that class -/
def aGd (kd : Nat → aKd) (rc : Option Nat) (as : List Value) (f : Option ρ) : Option ρ := match rc with
  | none => f
  | some ci => match as with
    | .ref b :: _ => match kd b with
      | .inr (.inl (c, _)) => match Nat.beq c ci with
        | true => f
        | false => none
      | .inr (.inr (.inr (c, _, _))) => match Nat.beq c ci with
        | true => f
        | false => none
      | _ => none
    | _ => none
def aCall (kd : Nat → aKd) (mi : Nat → Nat × Nat × Bool × Option Nat) (run : Nat → List Value → aH → Option (aRs × aH)) (hd : Option (List (Nat × Nat × Nat))) (ret : aRs × aH → Option ρ) (go : Nat → List (Option Value) → List Value → aH → Option ρ) (pc : Nat) (L : List (Option Value)) (S : List Value) (σ : aH) (mid : Nat) : Option ρ :=
  match mi mid with
  | (na, rt, th, rc) => if na ≤ S.length ∧ ((S.drop na).map fun v => v.category).sum ≤ 8 then
      aGd kd rc (S.take na).reverse <| match th, rt with
      | false, 0 => aCV (run mid (S.take na).reverse σ) fun σ => go (pc + 3) L (S.drop na) σ
      | false, 1 => aCI (run mid (S.take na).reverse σ) fun v σ => go (pc + 3) L (.int v :: S.drop na) σ
      | false, 2 => aCL (run mid (S.take na).reverse σ) fun v σ => go (pc + 3) L (.long v :: S.drop na) σ
      | true, 0 => aXV (run mid (S.take na).reverse σ) (fun σ => go (pc + 3) L (S.drop na) σ) fun k σ => aTh hd pc k (fun t => go t L [] σ) (ret (.inr k, σ))
      | true, 1 => aXI (run mid (S.take na).reverse σ) (fun v σ => go (pc + 3) L (.int v :: S.drop na) σ) fun k σ => aTh hd pc k (fun t => go t L [] σ) (ret (.inr k, σ))
      | _, _ => none
    else none
/-- System.arraycopy(a, 0, b, 0, n), of ints -/
def aCopy (kd : Nat → aKd) (go : Nat → List (Option Value) → List Value → aH → Option ρ) (pc : Nat) (L : List (Option Value)) (S : List Value) (σ : aH) : Option ρ :=
  aPI S fun n S => aPI S fun dp S => aPR S fun b S => aPI S fun sp S => aPR S fun a S => aArS kd 0 a fun n0 => aArS kd 0 b fun n1 =>
    if sp = 0 ∧ dp = 0 ∧ ¬ n < 0 ∧ n.toNatClampNeg ≤ n0 ∧ n.toNatClampNeg ≤ n1 ∧ (S.map fun v => v.category).sum ≤ 8 then go (pc + 3) L S (aCp σ a b n.toNatClampNeg) else none
def aRetI (S : List Value) (rt : Option FieldType) (f : Int32 → Option ρ) : Option ρ := match S, rt with
  | [.int x], some ty => aNar ty x (f x)
  | _, _ => none
def aRetL (S : List Value) (rt : Option FieldType) (f : Int64 → Option ρ) : Option ρ := match S, rt with
  | [.long x], some .long => f x
  | _, _ => none
def aRetV (S : List Value) (rt : Option FieldType) (f : Option ρ) : Option ρ := match S, rt with
  | [], none => f
  | _, _ => none
def aInv (ns : List Nat) (f : Nat → Option ρ) (g : Option ρ) : Option ρ := match ns with
  | [mid] => f mid
  | [] => g
  | _ => none
def aNew (hd : Option (List (Nat × Nat × Nat))) (S : List Value) (f : Option ρ) : Option ρ := match hd, S with
  | none, [] => f
  | _, _ => none
def aBst (t : Nat) (f g : Option ρ) : Option ρ := match t with
  | 1 => f
  | 2 => g
  | _ => none
def aIns (kd : Nat → aKd) (mi : Nat → Nat × Nat × Bool × Option Nat) (run : Nat → List Value → aH → Option (aRs × aH)) (rt : Option FieldType) (hd : Option (List (Nat × Nat × Nat))) (ret : aRs × aH → Option ρ) (go : Nat → List (Option Value) → List Value → aH → Option ρ) (pc : Nat) (L : List (Option Value)) (S : List Value) (σ : aH) (im : Int32) (ns : List Nat) (cv : Value) : Instr → Option ρ
  | .aload_n i => aLdR L i.val fun x => go (pc + 1) L (.ref x :: S) σ
  | .aload i => aLdR L i fun x => go (pc + 2) L (.ref x :: S) σ
  | .iload_n i => aLdI L i.val fun x => go (pc + 1) L (.int x :: S) σ
  | .iload i => aLdI L i fun x => go (pc + 2) L (.int x :: S) σ
  | .lload_n i => aLdL L i.val fun x => go (pc + 1) L (.long x :: S) σ
  | .lload i => aLdL L i fun x => go (pc + 2) L (.long x :: S) σ
  | .istore_n i => aPI S fun x S => if i.val < L.length then go (pc + 1) (aS1 L i.val (.int x)) S σ else none
  | .istore i => aPI S fun x S => if i < L.length then go (pc + 2) (aS1 L i (.int x)) S σ else none
  | .astore_n i => aPR S fun x S => if i.val < L.length then go (pc + 1) (aS1 L i.val (.ref x)) S σ else none
  | .astore i => aPR S fun x S => if i < L.length then go (pc + 2) (aS1 L i (.ref x)) S σ else none
  | .lstore_n i => aPL S fun x S => if i.val + 1 < L.length then go (pc + 1) (aS2 L i.val (.long x)) S σ else none
  | .lstore i => aPL S fun x S => if i + 1 < L.length then go (pc + 2) (aS2 L i (.long x)) S σ else none
  | .iinc i _ => aLdI L i fun x => if i < L.length then go (pc + 3) (aS1 L i (.int (x + im))) S σ else none
  | .iconst _ => go (pc + 1) L (.int im :: S) σ
  | .bipush _ => go (pc + 2) L (.int im :: S) σ
  | .sipush _ => go (pc + 3) L (.int im :: S) σ
  | .lconst _ => go (pc + 1) L (cv :: S) σ
  | .ldc _ => go (pc + 2) L (cv :: S) σ
  | .ldc_w _ => go (pc + 3) L (cv :: S) σ
  | .ldc2_w _ => go (pc + 3) L (cv :: S) σ
  | .getstatic _ => go (pc + 3) L (cv :: S) σ
  | .iadd => aPII S fun x y S => go (pc + 1) L (.int (x + y) :: S) σ
  | .isub => aPII S fun x y S => go (pc + 1) L (.int (x - y) :: S) σ
  | .imul => aPII S fun x y S => go (pc + 1) L (.int (x * y) :: S) σ
  | .idiv => aPII S fun x y S => aNz y (go (pc + 1) L (.int (x / y) :: S) σ)
  | .irem => aPII S fun x y S => aNz y (go (pc + 1) L (.int (x - x / y * y) :: S) σ)
  | .ineg => aPI S fun x S => go (pc + 1) L (.int (-x) :: S) σ
  | .ishl => aPII S fun x y S => go (pc + 1) L (.int (x <<< (y &&& 31)) :: S) σ
  | .ishr => aPII S fun x y S => go (pc + 1) L (.int (x >>> (y &&& 31)) :: S) σ
  | .iushr => aPII S fun x y S => go (pc + 1) L (.int ((x.toUInt32 >>> (y.toUInt32 &&& Int32.toUInt32 31)).toInt32) :: S) σ
  | .iand => aPII S fun x y S => go (pc + 1) L (.int (x &&& y) :: S) σ
  | .ior => aPII S fun x y S => go (pc + 1) L (.int (x ||| y) :: S) σ
  | .ladd => aPLL S fun x y S => go (pc + 1) L (.long (x + y) :: S) σ
  | .lsub => aPLL S fun x y S => go (pc + 1) L (.long (x - y) :: S) σ
  | .lmul => aPLL S fun x y S => go (pc + 1) L (.long (x * y) :: S) σ
  | .ldiv => aPLL S fun x y S => aNzL y (go (pc + 1) L (.long (x / y) :: S) σ)
  | .lrem => aPLL S fun x y S => aNzL y (go (pc + 1) L (.long (x - x / y * y) :: S) σ)
  | .lor => aPLL S fun x y S => go (pc + 1) L (.long (x ||| y) :: S) σ
  | .lxor => aPLL S fun x y S => go (pc + 1) L (.long (x ^^^ y) :: S) σ
  | .lshl => aPI S fun y S => aPL S fun x S => go (pc + 1) L (.long (x <<< (y.toInt64 &&& 63)) :: S) σ
  | .lcmp => aPLL S fun x y S => go (pc + 1) L (.int (lg_cmp x y) :: S) σ
  | .i2l => aPI S fun x S => go (pc + 1) L (.long x.toInt64 :: S) σ
  | .l2i => aPL S fun x S => go (pc + 1) L (.int x.toInt32 :: S) σ
  | .i2c => aPI S fun x S => go (pc + 1) L (.int (x.toUInt32 % 65536).toInt32 :: S) σ
  | .i2b => aPI S fun x S => go (pc + 1) L (.int x.toInt8.toInt32 :: S) σ
  | .dup => aPV S fun v S => if v.category = 1 then go (pc + 1) L (v :: v :: S) σ else none
  | .dup2 => aPV S fun v S => aPV S fun w S => if v.category = 1 ∧ w.category = 1 then go (pc + 1) L (v :: w :: v :: w :: S) σ else none
  | .pop => aPV S fun v S => if v.category = 1 then go (pc + 1) L S σ else none
  | .goto _ => aOne ns fun t => go t L S σ
  | .if_icmp c _ => aOne ns fun t => aPII S fun x y S => aCmp c x y (go t L S σ) (go (pc + 3) L S σ)
  | .ifCond c _ => aOne ns fun t => aPI S fun x S => aCmp c x 0 (go t L S σ) (go (pc + 3) L S σ)
  | .tableswitch _ _ _ _ => aDf ns fun d ts => aPI S fun x S => aSw x im (fun t => go t L S σ) d ts
  | .ireturn => aRetI S rt fun x => ret (.inl (some (.int x)), σ)
  | .lreturn => aRetL S rt fun x => ret (.inl (some (.long x)), σ)
  | .return_ => aRetV S rt (ret (.inl none, σ))
  | .getfield _ => aTwo ns fun ci k => aPR S fun b S => aGet kd ci k b σ fun v => go (pc + 3) L (v :: S) σ
  | .putfield _ => aTwo ns fun ci k => aPV S fun v S => aPR S fun b S => aPut kd ci k b v σ fun σ => go (pc + 3) L S σ
  | .iaload => aPI S fun i S => aPR S fun a S => aArr kd 0 a σ fun n f => aIx i n fun j => go (pc + 1) L (.int (f j) :: S) σ
  | .baload => aPI S fun i S => aPR S fun a S => aArB kd a σ fun n f => aIx i n fun j => go (pc + 1) L (.int (f j) :: S) σ
  | .laload => aPI S fun i S => aPR S fun a S => aArL kd a σ fun n f => aIx i n fun j => go (pc + 1) L (.long (f j) :: S) σ
  | .iastore => aPI S fun x S => aPI S fun i S => aPR S fun a S => aArS kd 0 a fun n => aIx i n fun j => go (pc + 1) L S (aSI σ a j x)
  | .bastore => aPI S fun x S => aPI S fun i S => aPR S fun a S => aOne ns fun t => aBst t (aArS kd 1 a fun n => aIx i n fun j => go (pc + 1) L S (aSI σ a j (vp_nar .byte x))) (aArS kd 2 a fun n => aIx i n fun j => go (pc + 1) L S (aSI σ a j (vp_nar .boolean x)))
  | .lastore => aPL S fun x S => aPI S fun i S => aPR S fun a S => aArS kd 3 a fun n => aIx i n fun j => go (pc + 1) L S (aSL σ a j x)
  | .arraylength => aPR S fun a S => aLen kd a fun n => go (pc + 1) L (.int (Int32.ofNat n) :: S) σ
  | .invokevirtual _ => aOne ns fun mid => aCall kd mi run hd ret go pc L S σ mid
  | .invokestatic _ => aInv ns (fun mid => aCall kd mi run hd ret go pc L S σ mid) (aCopy kd go pc L S σ)
  | .new _ => aNew hd S (aOne ns fun k => ret (.inr k, σ))
  | _ => none
/-- one step of a method -/
def aStep (kd : Nat → aKd) (mi : Nat → Nat × Nat × Bool × Option Nat) (run : Nat → List Value → aH → Option (aRs × aH)) (M : aMt) (ret : aRs × aH → Option ρ) (k : aSt → Option ρ) (st : aSt) : Option ρ :=
  match aLook st.1 M.2.2.1 with
  | some (ins, im, ns, cv) => aIns kd mi run M.1 M.2.2.2.2 ret (fun pc L S σ => k (pc, aDead M.2.2.2.1 pc L, S, σ)) st.1 st.2.1 st.2.2.1 st.2.2.2 im ns cv ins
  | none => none
end AMs
def aLp (kd : Nat → aKd) (mi : Nat → Nat × Nat × Bool × Option Nat) (run : Nat → List Value → aH → Option (aRs × aH)) (M : aMt) : Nat → aSt → Option (aRs × aH)
  | 0, _ => none
  | n + 1, st => aStep kd mi run M some (aLp kd mi run M n) st
noncomputable def aLoop (kd : Nat → aKd) (mi : Nat → Nat × Nat × Bool × Option Nat) (run : Nat → List Value → aH → Option (aRs × aH)) (M : aMt) (st : aSt) : Option (aRs × aH) :=
  letI := Classical.propDecidable (∃ (n : Nat) (r : aRs × aH), aLp kd mi run M n st = some r); if h : ∃ (n : Nat) (r : aRs × aH), aLp kd mi run M n st = some r then some (Classical.choose (Classical.choose_spec h)) else none
def aEnt : List Value → List (Option Value)
  | [] => []
  | v :: vs => match v with
    | .long x => some (.long x) :: none :: aEnt vs
    | .double x => some (.double x) :: none :: aEnt vs
    | v => some v :: aEnt vs
def aPad (n : Nat) (L : List (Option Value)) : List (Option Value) := L ++ List.replicate (n - L.length) none
noncomputable def aRun (kd : Nat → aKd) (mi : Nat → Nat × Nat × Bool × Option Nat) (mt : Nat → Option aMt) : Nat → Nat → List Value → aH → Option (aRs × aH)
  | 0, _, _, _ => none
  | d + 1, mid, as, σ => match mt mid with
    | some M => match M.2.2.2.2, Nat.ble (aEnt as).length M.2.1 with
      | none, true => aLoop kd mi (aRun kd mi mt d) M (0, aPad M.2.1 (aEnt as), [], σ)
      | _, _ => none
    | none => none
/-- a method with a table, called by the law: at most 40 steps -/
noncomputable def aRunW (kd : Nat → aKd) (mi : Nat → Nat × Nat × Bool × Option Nat) (mt : Nat → Option aMt) (d : Nat) (mid : Nat) (as : List Value) (σ : aH) : Option (aRs × aH) := match mt mid with
  | some M => match M.2.2.2.2, Nat.ble (aEnt as).length M.2.1 with
    | none, _ => aRun kd mi mt d mid as σ
    | some _, true => aLp kd mi (aRun kd mi mt d) M 40 (0, aPad M.2.1 (aEnt as), [], σ)
    | _, _ => none
  | none => none
