abbrev AT : Type := Nat × Nat × (Nat → Option Nat)
abbrev Mm : Type := List AT × (Nat → Nat → Int32) × (Nat → Nat → Int64)
abbrev Ls : Type := List (Option Value)
abbrev St4 : Type := Nat × Ls × List Value × Mm
def lk2 {α : Type} : List (Nat × Nat × α) → Nat → Nat → Option α
  | [], _, _ => none
  | e :: r, c, i => if (Nat.beq e.1 c && Nat.beq e.2.1 i) = true then some e.2.2 else lk2 r c i
theorem lk2_mem {α : Type} {c i : Nat} {x : α} : ∀ {l : List (Nat × Nat × α)}, lk2 l c i = some x → (c, i, x) ∈ l
  | [], h => by simp [lk2] at h
  | e :: r, h => by
    unfold lk2 at h
    split at h
    · rename_i hc
      simp only [Bool.and_eq_true, Nat.beq_eq_true_eq] at hc
      obtain ⟨e1, e2, e3⟩ := e
      cases h
      have h1 : e1 = c := Nat.eq_of_beq_eq_true hc.1
      have h2 : e2 = i := Nat.eq_of_beq_eq_true hc.2
      subst h1; subst h2
      exact List.mem_cons_self
    · exact List.mem_cons_of_mem _ (lk2_mem h)
/-- how many fields a class has -/
def nF (c : Nat) : Nat := match c with
  | 0 => 2
  | 1 => 3
  | 2 => 3
  | 3 => 13
  | 4 => 2
  | 5 => 3
  | 6 => 13
  | 7 => 23
  | _ => 0
/-- 0 an int, 1 a boolean, 2 a reference -/
def fTyT (c : Nat) : List Nat := match c with
  | 0 => [2, 0]
  | 1 => [2, 0, 0]
  | 2 => [0, 0, 2]
  | 3 => [0, 0, 0, 0, 0, 0, 0, 2, 2, 2, 2, 2, 2]
  | 4 => [0, 0]
  | 5 => [2, 0, 0]
  | 6 => [2, 2, 2, 2, 1, 2, 2, 2, 2, 2, 2, 2, 2]
  | 7 => [2, 1, 2, 0, 2, 2, 2, 2, 0, 0, 0, 0, 0, 0, 0, 2, 2, 2, 2, 0, 0, 2, 2]
  | _ => []
def fTy (c k : Nat) : Nat := (fTyT c).getD k 9
def isI (v : Value) : Bool := match v with
  | .int _ => true
  | _ => false
def isJ (v : Value) : Bool := match v with
  | .long _ => true
  | _ => false
def isA (v : Value) : Bool := match v with
  | .ref _ => true
  | _ => false
def clr (o : Option Value) : Option Value := match o with
  | some w => if w.category = 2 then none else some w
  | none => none
def clrAt (L : Ls) (j : Nat) : Ls := match L[j]? with
  | some o => L.set j (clr o)
  | none => L
def st1 (L : Ls) (k : Nat) (v : Value) : Ls := match k with
  | 0 => L.set 0 (some v)
  | j + 1 => (clrAt L j).set (j + 1) (some v)
def xLd (p : Value → Bool) (L : Ls) (k pc' : Nat) (S : List Value) (μ : Mm) : Option St4 := match L[k]? with
  | some (some v) => if p v = true then some (pc', L, v :: S, μ) else none
  | _ => none
def xSt (p : Value → Bool) (L : Ls) (k pc' : Nat) (S : List Value) (μ : Mm) : Option St4 := match S with
  | v :: S' => if p v = true ∧ k < L.length then some (pc', st1 L k v, S', μ) else none
  | [] => none
def x2 (f : Int32 → Int32 → Int32) (pc : Nat) (L : Ls) (S : List Value) (μ : Mm) : Option St4 := match S with
  | .int y :: .int x :: S' => some (pc + 1, L, .int (f x y) :: S', μ)
  | _ => none
def x2d (f : Int32 → Int32 → Int32) (pc : Nat) (L : Ls) (S : List Value) (μ : Mm) : Option St4 := match S with
  | .int y :: .int x :: S' => if y = 0 then none else some (pc + 1, L, .int (f x y) :: S', μ)
  | _ => none
def x2J (f : Int64 → Int64 → Int64) (pc : Nat) (L : Ls) (S : List Value) (μ : Mm) : Option St4 := match S with
  | .long y :: .long x :: S' => some (pc + 1, L, .long (f x y) :: S', μ)
  | _ => none
def x1 (f : Int32 → Int32) (pc : Nat) (L : Ls) (S : List Value) (μ : Mm) : Option St4 := match S with
  | .int x :: S' => some (pc + 1, L, .int (f x) :: S', μ)
  | _ => none
def xGo (pc : Nat) (off : Int) (L : Ls) (S : List Value) (μ : Mm) : Option St4 := if 0 ≤ (pc : Int) + off then some (((pc : Int) + off).toNat, L, S, μ) else none
def xIf (b : Bool) (pc : Nat) (off : Int) (L : Ls) (S : List Value) (μ : Mm) : Option St4 := if 0 ≤ (pc : Int) + off then (if b = true then some (((pc : Int) + off).toNat, L, S, μ) else some (pc + 3, L, S, μ)) else none
def cmpP (c : ClassFile.Cond) (x y : Int32) : Bool := match c with
  | .eq => decide (x = y)
  | .ne => decide (¬ x = y)
  | .lt => decide (x < y)
  | .ge => decide (y ≤ x)
  | .gt => decide (y < x)
  | .le => decide (x ≤ y)
def rfV (r : Option Nat) : Value := match r with
  | none => .null
  | some q => .ref q
def fV (ci f : Nat) (t : AT) (m : Nat → Int32) : Value := if fTy ci f = 2 then rfV (t.2.2 f) else .int (m f)
def up2 (m : Nat → Nat → Int32) (a k : Nat) (x : Int32) : Nat → Nat → Int32 := va_up m a (upd (m a) k x)
def up2J (m : Nat → Nat → Int64) (a k : Nat) (x : Int64) : Nat → Nat → Int64 := va_up m a (vp_updL (m a) k x)
def finOk (M : MI) (ci f : Nat) : Prop := (TC ci f).2.2.2 = false ∨ (mK M = 2 ∧ ci = mC M)
def inB (i : Int32) (n : Nat) : Prop := ¬ i < 0 ∧ i.toNatClampNeg < n
def xGet (ci f pc : Nat) (L : Ls) (S : List Value) (μ : Mm) : Option St4 := match S with
  | .ref a :: S' => match μ.1[a]? with
    | some t => if t.1 = ci + 10 ∧ f < nF ci then some (pc + 3, L, fV ci f t (μ.2.1 a) :: S', μ) else none
    | none => none
  | _ => none
def xPut (fin : Bool) (ci f pc : Nat) (L : Ls) (S : List Value) (μ : Mm) : Option St4 := match S with
  | .ref q :: .ref a :: S' => match μ.1[a]? with
    | some t => if t.1 = ci + 10 ∧ f < nF ci ∧ fin = true ∧ fTy ci f = 2 then some (pc + 3, L, S', (μ.1.set a (t.1, t.2.1, va_up t.2.2 f (some q)), μ.2)) else none
    | none => none
  | .int x :: .ref a :: S' => match μ.1[a]? with
    | some t => if t.1 = ci + 10 ∧ f < nF ci ∧ fin = true ∧ (fTy ci f = 0 ∨ fTy ci f = 1 ∧ (x = 0 ∨ x = 1)) then some (pc + 3, L, S', (μ.1, up2 μ.2.1 a f x, μ.2.2)) else none
    | none => none
  | _ => none
def finB (M : MI) (ci f : Nat) : Bool := !(TC ci f).2.2.2 || (Nat.beq (mK M) 2 && Nat.beq ci (mC M))
/-- a load of an int: of an array of the kind tg, or of the script, if sc -/
def xAld (tg : Nat) (sc : Bool) (pc : Nat) (L : Ls) (S : List Value) (μ : Mm) : Option St4 := match S with
  | .int i :: .ref a :: S' => match μ.1[a]? with
    | some t => if (t.1 = tg ∨ (sc = true ∧ a = 0)) ∧ ¬ i < 0 ∧ i.toNatClampNeg < t.2.1 then some (pc + 1, L, .int (μ.2.1 a i.toNatClampNeg) :: S', μ) else none
    | none => none
  | _ => none
def xAst (tg : Nat) (nr : Int32 → Int32) (pc : Nat) (L : Ls) (S : List Value) (μ : Mm) : Option St4 := match S with
  | .int x :: .int i :: .ref a :: S' => match μ.1[a]? with
    | some t => if t.1 = tg ∧ ¬ i < 0 ∧ i.toNatClampNeg < t.2.1 then some (pc + 1, L, S', (μ.1, up2 μ.2.1 a i.toNatClampNeg (nr x), μ.2.2)) else none
    | none => none
  | _ => none
def xLald (pc : Nat) (L : Ls) (S : List Value) (μ : Mm) : Option St4 := match S with
  | .int i :: .ref a :: S' => match μ.1[a]? with
    | some t => if t.1 = 2 ∧ ¬ i < 0 ∧ i.toNatClampNeg < t.2.1 then some (pc + 1, L, .long (μ.2.2 a i.toNatClampNeg) :: S', μ) else none
    | none => none
  | _ => none
def xLast (pc : Nat) (L : Ls) (S : List Value) (μ : Mm) : Option St4 := match S with
  | .long x :: .int i :: .ref a :: S' => match μ.1[a]? with
    | some t => if t.1 = 2 ∧ ¬ i < 0 ∧ i.toNatClampNeg < t.2.1 then some (pc + 1, L, S', (μ.1, μ.2.1, up2J μ.2.2 a i.toNatClampNeg x)) else none
    | none => none
  | _ => none
def xAald (pc : Nat) (L : Ls) (S : List Value) (μ : Mm) : Option St4 := match S with
  | .int i :: .ref a :: S' => match μ.1[a]? with
    | some t => if (t.1 = 3 ∨ t.1 = 4) ∧ ¬ i < 0 ∧ i.toNatClampNeg < t.2.1 then some (pc + 1, L, rfV (t.2.2 i.toNatClampNeg) :: S', μ) else none
    | none => none
  | _ => none
def xAast (pc : Nat) (L : Ls) (S : List Value) (μ : Mm) : Option St4 := match S with
  | .ref v :: .int i :: .ref a :: S' => match μ.1[a]?, μ.1[v]? with
    | some t, some tv => if ((t.1 = 3 ∧ tv.1 = 13) ∨ (t.1 = 4 ∧ tv.1 = 12)) ∧ ¬ i < 0 ∧ i.toNatClampNeg < t.2.1 then some (pc + 1, L, S', (μ.1.set a (t.1, t.2.1, va_up t.2.2 i.toNatClampNeg (some v)), μ.2)) else none
    | _, _ => none
  | _ => none
def xLen (pc : Nat) (L : Ls) (S : List Value) (μ : Mm) : Option St4 := match S with
  | .ref a :: S' => match μ.1[a]? with
    | some t => if a = 0 then some (pc + 1, L, .int (Int32.ofNat t.2.1) :: S', μ) else none
    | none => none
  | _ => none
/-- one cell more, blank -/
def mNew (μ : Mm) (t : AT) : Mm := (μ.1 ++ [t], va_up μ.2.1 μ.1.length (fun _ => 0), va_up μ.2.2 μ.1.length (fun _ => 0))
def xNewa (tg pc : Nat) (L : Ls) (S : List Value) (μ : Mm) : Option St4 := match S with
  | .int n :: S' => if ¬ n < 0 ∧ n.toNatClampNeg ≤ 4096 then some (pc, L, .ref μ.1.length :: S', mNew μ (tg, n.toNatClampNeg, fun _ => none)) else none
  | _ => none
def xCopy (pc : Nat) (L : Ls) (S : List Value) (μ : Mm) : Option St4 := match S with
  | .int n :: .int dp :: .ref b :: .int sp :: .ref a :: S' => match μ.1[a]?, μ.1[b]? with
    | some ta, some tb => if (S'.map fun v => v.category).sum ≤ 8 ∧ (¬ sp < 0 ∧ ¬ dp < 0 ∧ ¬ n < 0) ∧ sp.toNatClampNeg + n.toNatClampNeg ≤ ta.2.1 ∧ dp.toNatClampNeg + n.toNatClampNeg ≤ tb.2.1 then
        (if ta.1 = 0 ∧ tb.1 = 0 then some (pc + 3, L, S', (μ.1, va_up μ.2.1 b (va_cpy (μ.2.1 a) (μ.2.1 b) sp.toNatClampNeg dp.toNatClampNeg n.toNatClampNeg), μ.2.2))
        else if ta.1 = 2 ∧ tb.1 = 2 then some (pc + 3, L, S', (μ.1, μ.2.1, va_up μ.2.2 b (va_cpy (μ.2.2 a) (μ.2.2 b) sp.toNatClampNeg dp.toNatClampNeg n.toNatClampNeg)))
        else none) else none
    | _, _ => none
  | _ => none
/-- where a letter stands in "pdtwu" -/
def kIx (c : Int32) : Int32 := if c = 112 then 0 else if c = 100 then 1 else if c = 116 then 2 else if c = 119 then 3 else if c = 117 then 4 else -1
def xStat (M : MI) (k pc : Nat) (L : Ls) (S : List Value) (μ : Mm) : Option St4 :=
  if lk2 xMax (mC M) k = some () then (match S with
    | .int y :: .int x :: S' => if 1 ≤ mF M ∧ 40 ≤ mW M ∧ (S'.map fun v => v.category).sum ≤ 8 then some (pc + 3, L, .int (if x < y then y else x) :: S', μ) else none
    | _ => none)
  else if lk2 xMin (mC M) k = some () then (match S with
    | .int y :: .int x :: S' => if 1 ≤ mF M ∧ 40 ≤ mW M ∧ (S'.map fun v => v.category).sum ≤ 8 then some (pc + 3, L, .int (if y < x then y else x) :: S', μ) else none
    | _ => none)
  else if lk2 xAcp (mC M) k = some () then (if 1 ≤ mF M ∧ 60 ≤ mW M then xCopy pc L S μ else none)
  else none
def xSpec (M : MI) (k pc : Nat) (L : Ls) (S : List Value) (μ : Mm) : Option St4 :=
  if lk2 xOin (mC M) k = some () then (match S with
    | .ref a :: S' => if 1 ≤ mF M ∧ 40 ≤ mW M ∧ (S'.map fun v => v.category).sum ≤ 8 then some (pc + 3, L, S', μ) else none
    | _ => none)
  else none
def xVirt (M : MI) (k pc : Nat) (L : Ls) (S : List Value) (μ : Mm) : Option St4 :=
  if mC M = 5 ∧ k = 62 then (match S with
    | .int c :: .ref 1 :: S' => if 7 ≤ mF M ∧ 180 ≤ mW M ∧ (S'.map fun v => v.category).sum ≤ 8 then some (pc + 3, L, .int (kIx c) :: S', μ) else none
    | _ => none)
  else none
def stepI (M : MI) (i : Instr) (pc : Nat) (L : Ls) (S : List Value) (μ : Mm) : Option St4 := match i with
  | .iconst n => some (pc + 1, L, .int (Int32.ofInt n) :: S, μ)
  | .bipush n => some (pc + 2, L, .int (Int8.ofInt n).toInt32 :: S, μ)
  | .sipush n => some (pc + 3, L, .int (Int16.ofInt n).toInt32 :: S, μ)
  | .lconst n => some (pc + 1, L, .long (Int64.ofNat (n : Nat)) :: S, μ)
  | .iload_n k => xLd isI L k (pc + 1) S μ
  | .iload k => xLd isI L k (pc + 2) S μ
  | .lload_n k => xLd isJ L k (pc + 1) S μ
  | .lload k => xLd isJ L k (pc + 2) S μ
  | .aload_n k => xLd isA L k (pc + 1) S μ
  | .aload k => xLd isA L k (pc + 2) S μ
  | .istore_n k => xSt isI L k (pc + 1) S μ
  | .istore k => xSt isI L k (pc + 2) S μ
  | .astore_n k => xSt isA L k (pc + 1) S μ
  | .astore k => xSt isA L k (pc + 2) S μ
  | .iinc k n => (match L[k]? with
    | some (some (.int x)) => some (pc + 3, st1 L k (.int (x + Int32.ofInt n)), S, μ)
    | _ => none)
  | .iadd => x2 (fun x y => x + y) pc L S μ
  | .isub => x2 (fun x y => x - y) pc L S μ
  | .imul => x2 (fun x y => x * y) pc L S μ
  | .iand => x2 (fun x y => x &&& y) pc L S μ
  | .ior => x2 (fun x y => x ||| y) pc L S μ
  | .ixor => x2 (fun x y => x ^^^ y) pc L S μ
  | .ishl => x2 (fun x y => x <<< (y &&& 31)) pc L S μ
  | .ishr => x2 (fun x y => x >>> (y &&& 31)) pc L S μ
  | .idiv => x2d (fun x y => x / y) pc L S μ
  | .irem => x2d (fun x y => x - x / y * y) pc L S μ
  | .ladd => x2J (fun x y => x + y) pc L S μ
  | .lmul => x2J (fun x y => x * y) pc L S μ
  | .land => x2J (fun x y => x &&& y) pc L S μ
  | .lor => x2J (fun x y => x ||| y) pc L S μ
  | .lshl => (match S with
    | .int y :: .long x :: S' => some (pc + 1, L, .long (x <<< (y.toInt64 &&& 63)) :: S', μ)
    | _ => none)
  | .lcmp => (match S with
    | .long y :: .long x :: S' => some (pc + 1, L, .int (lg_cmp x y) :: S', μ)
    | _ => none)
  | .i2l => (match S with
    | .int x :: S' => some (pc + 1, L, .long x.toInt64 :: S', μ)
    | _ => none)
  | .l2i => (match S with
    | .long x :: S' => some (pc + 1, L, .int x.toInt32 :: S', μ)
    | _ => none)
  | .i2b => x1 (fun x => x.toInt8.toInt32) pc L S μ
  | .i2s => x1 (fun x => x.toInt16.toInt32) pc L S μ
  | .i2c => x1 (fun x => (x.toUInt32 % 65536).toInt32) pc L S μ
  | .dup => (match S with
    | v :: S' => if v.category = 1 then some (pc + 1, L, v :: v :: S', μ) else none
    | _ => none)
  | .dup2 => (match S with
    | v :: w :: S' => if v.category = 1 ∧ w.category = 1 then some (pc + 1, L, v :: w :: v :: w :: S', μ) else none
    | _ => none)
  | .pop => (match S with
    | v :: S' => if v.category = 1 then some (pc + 1, L, S', μ) else none
    | _ => none)
  | .ifCond c off => (match S with
    | .int x :: S' => xIf (cmpP c x 0) pc off L S' μ
    | _ => none)
  | .if_icmp c off => (match S with
    | .int y :: .int x :: S' => xIf (cmpP c x y) pc off L S' μ
    | _ => none)
  | .goto off => xGo pc off L S μ
  | .tableswitch d lo hi offs => (match S with
    | .int x :: S' => if x.toInt < lo ∨ hi < x.toInt then xGo pc d L S' μ else (match offs[(x.toInt - lo).toNat]? with
      | some off => xGo pc off L S' μ
      | none => none)
    | _ => none)
  | .lookupswitch d ps => (match S with
    | .int x :: S' => if (ps.toList.zip (ps.toList.drop 1)).all (fun (a, next) => a.1 < next.1) = true then xGo pc (Op.lookupswitch.offset ps.toList d x.toInt) L S' μ else none
    | _ => none)
  | .ldc k => (match lk2 iLk (mC M) k with
    | some v => some (pc + 2, L, .int v :: S, μ)
    | none => if mC M = 5 ∧ k = 60 then some (pc + 2, L, .ref 1 :: S, μ) else none)
  | .ldc2_w k => (match lk2 lLk (mC M) k with
    | some v => some (pc + 3, L, .long v :: S, μ)
    | none => none)
  | .getfield k => (match lk2 fLk (mC M) k with
    | some cf => xGet cf.1 cf.2 pc L S μ
    | none => none)
  | .putfield k => (match lk2 fLk (mC M) k with
    | some cf => xPut (finB M cf.1 cf.2) cf.1 cf.2 pc L S μ
    | none => none)
  | .iaload => xAld 0 true pc L S μ
  | .caload => xAld 1 false pc L S μ
  | .iastore => xAst 0 (fun x => x) pc L S μ
  | .castore => xAst 1 (vp_nar .char) pc L S μ
  | .laload => xLald pc L S μ
  | .lastore => xLast pc L S μ
  | .aaload => xAald pc L S μ
  | .aastore => xAast pc L S μ
  | .arraylength => xLen pc L S μ
  | .newarray ty => (match ty with
    | .int => xNewa 0 (pc + 2) L S μ
    | .char => xNewa 1 (pc + 2) L S μ
    | .long => xNewa 2 (pc + 2) L S μ
    | _ => none)
  | .anewarray k => (match lk2 cLk (mC M) k with
    | some 3 => xNewa 3 (pc + 3) L S μ
    | some 2 => xNewa 4 (pc + 3) L S μ
    | _ => none)
  | .new k => (match lk2 cLk (mC M) k with
    | some ci => some (pc + 3, L, .ref μ.1.length :: S, mNew μ (ci + 10, 0, fun _ => none))
    | none => none)
  | .invokestatic k => xStat M k pc L S μ
  | .invokespecial k => xSpec M k pc L S μ
  | .invokevirtual k => xVirt M k pc L S μ
  | _ => none
def calleeOf (M : MI) (i : Instr) : Option (MI × Bool) := match i with
  | .invokevirtual k => (match lk2 mLk (mC M) k with
    | some N => if mK N = 0 then some (N, false) else none
    | none => none)
  | .invokestatic k => (match lk2 mLk (mC M) k with
    | some N => if mK N = 1 ∧ mC N = mC M then some (N, false) else none
    | none => (match lk2 nLk (mC M) k with
      | some N => if mK N = 1 then some (N, true) else none
      | none => none))
  | .invokespecial k => (match lk2 mLk (mC M) k with
    | some N => if mK N = 2 then some (N, false) else none
    | none => (match lk2 nLk (mC M) k with
      | some N => if mK N = 2 then some (N, true) else none
      | none => none))
  | _ => none
def slL (vs : List Value) : Ls := vs.flatMap fun v => if v.category = 2 then [some v, none] else [some v]
def ent (vs : List Value) (n : Nat) : Ls := slL vs ++ List.replicate (n - (slL vs).length) none
def nAr (N : MI) : Nat := if mK N = 1 then mN N else mN N + 1
/-- the receiver is an object of the callee's class -/
def rcv (N : MI) (vs : List Value) (μ : Mm) : Prop := mK N = 1 ∨ ∃ a r t, vs = .ref a :: r ∧ μ.1[a]? = some t ∧ t.1 = mC N + 10
def rcvB (N : MI) (vs : List Value) (μ : Mm) : Bool := Nat.beq (mK N) 1 || (match vs with
  | .ref a :: _ => (match μ.1[a]? with
    | some t => Nat.beq t.1 (mC N + 10)
    | none => false)
  | _ => false)
def rmOk (M N : MI) : Bool := Nat.ble (mF N + 1) (mF M) && Nat.ble (19 + mL N + mW N) (mW M)
def retOk (ty : FieldType) (v : Int32) : Bool := match ty with
  | .int => true
  | .boolean => decide (v = 0) || decide (v = 1)
  | .char => decide (0 ≤ v) && decide (v < 65536)
  | _ => false
def lenOk (i : Instr) (len : Nat) : Bool := match i with
  | .bipush _ | .iload _ | .lload _ | .aload _ | .istore _ | .astore _ | .ldc _ | .newarray _ => Nat.beq len 2
  | .sipush _ | .iinc _ _ | .ifCond _ _ | .if_icmp _ _ | .goto _ | .ldc2_w _ | .getfield _ | .putfield _ | .anewarray _ | .new _ | .invokestatic _ | .invokespecial _ | .invokevirtual _ => Nat.beq len 3
  | .tableswitch _ _ _ _ | .lookupswitch _ _ => true
  | _ => Nat.beq len 1
def exec : Nat → MI → Nat → Ls → List Value → Mm → Option (Option Value × Mm)
  | 0, _, _, _, _, _ => none
  | n + 1, M, pc, L, S, μ => match decode (mB M) pc with
    | .error _ => none
    | .ok (i, len) => if lenOk i len = true then (match i with
      | .ireturn => (match S, mR M with
        | [.int v], some ty => if retOk ty v = true then some (some (.int v), μ) else none
        | _, _ => none)
      | .lreturn => (match S, mR M with
        | [.long v], some .long => some (some (.long v), μ)
        | _, _ => none)
      | .return_ => (match S, mR M with
        | [], none => some (none, μ)
        | _, _ => none)
      | i => (match calleeOf M i with
        | some (N, _) => if nAr N ≤ S.length ∧ ((S.drop (nAr N)).map fun v => v.category).sum ≤ 8 ∧ rmOk M N = true ∧ rcvB N (S.take (nAr N)).reverse μ = true ∧ (slL (S.take (nAr N)).reverse).length ≤ mL N then
            (match exec n N 0 (ent (S.take (nAr N)).reverse (mL N)) [] μ with
            | some (r, μ') => exec n M (pc + 3) L (r.toList ++ S.drop (nAr N)) μ'
            | none => none) else none
        | none => (match stepI M i pc L S μ with
          | some (pc', L', S', μ') => exec n M pc' L' S' μ'
          | none => none))) else none
