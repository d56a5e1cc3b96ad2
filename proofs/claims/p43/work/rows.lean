section
/-! ===== A SMALL MACHINE: whole numbers, cells by their numbers, one step's weakest precondition over the library's own instructions ===== -/
abbrev GV : Type := Int ⊕ (Nat ⊕ (Int ⊕ Nat))
/-- an int -/
abbrev gI (n : Int) : GV := .inl n
/-- a cell's number -/
abbrev gR (k : Nat) : GV := .inr (.inl k)
/-- a long -/
abbrev gL (n : Int) : GV := .inr (.inr (.inl n))
/-- 0: null; 1: the script; else: nothing -/
abbrev gN (k : Nat) : GV := .inr (.inr (.inr k))
abbrev gOk (n : Int) : Prop := -2147483648 ≤ n ∧ n < 2147483648
/-- a cell's shape: its kind (below 100: an object of that number; 100 int, 101 boolean, 102 char, 103 objects), how many slots, the slots that hold no numbers -/
abbrev GC : Type := Nat × Nat × List (Option GV)
abbrev SH : Type := List GC
abbrev MU : Type := Nat → Int → Int
def gW (μ : MU) (a : Nat) (i v : Int) : MU := fun b => if b = a then (fun j => if j = i then v else μ a j) else μ b
def gZ (μ : MU) (a : Nat) : MU := fun b => if b = a then (fun _ => 0) else μ b
def gCp (μ : MU) (a : Nat) (sp : Int) (b : Nat) (dp n : Int) : MU := fun c => if c = b then (fun j => if dp ≤ j ∧ j < dp + n then μ a (sp + (j - dp)) else μ b j) else μ c
/-- a row of code: place, instruction, two numbers that the tables give for it -/
abbrev GE : Type := Nat × Instr × Nat × Int
def gAt : List GE → Nat → Option (Instr × Nat × Int)
  | [], _ => none
  | e :: t, pc => match Nat.beq e.1 pc with
    | true => some e.2
    | false => gAt t pc
/-- a method: its owner's number, its code, its locals, what it answers (0 nothing, 1 int, 2 boolean, 3 long, 4 a reference), the cells and slots that it makes, whether it reads the script -/
abbrev GM : Type := Nat × List GE × Nat × Nat × Nat × Nat × Bool
abbrev GQ : Type := Option GV → SH → MU → Prop
abbrev GP : Type := Nat → List GV → List GV → SH → MU → Nat → Nat → Prop
abbrev GCall : Type := Nat → List GV → SH → MU → GQ → Prop
def gIs (b : Bool) (A : Prop) : Prop := match b with
  | true => A
  | false => False
def gLd (t : Nat) (o : Option GV) (k : GV → Prop) : Prop := match t, o with
  | 0, some (.inl a) => k (gI a)
  | 1, some (.inr (.inl a)) => k (gR a)
  | 1, some (.inr (.inr (.inr 0))) => k (gN 0)
  | 1, some (.inr (.inr (.inr 1))) => k (gN 1)
  | 2, some (.inr (.inr (.inl a))) => k (gL a)
  | _, _ => False
/-- a reference, null or the script -/
def gTr : GV → Bool
  | .inr (.inl _) => true
  | .inr (.inr (.inr k)) => Nat.blt k 2
  | _ => false
/-- one slot wide -/
def gC1 : GV → Bool
  | .inr (.inr (.inl _)) => false
  | .inr (.inr (.inr k)) => Nat.blt k 2
  | _ => true
def gNoL (L : List GV) : Nat → Bool
  | 0 => true
  | j + 1 => match L[j]? with
    | some (.inr (.inr (.inl _))) => false
    | _ => true
def gSt (L : List GV) (i : Nat) (v : GV) (k : List GV → Prop) : Prop := gIs (Nat.blt i L.length && gNoL L i) (k (L.set i v))
def gSt2 (L : List GV) (i : Nat) (v : GV) (k : List GV → Prop) : Prop := gIs (Nat.blt (i + 1) L.length && gNoL L i) (k ((L.set i v).set (i + 1) (gN 2)))
def g1 (S : List GV) (k : Int → List GV → Prop) : Prop := match S with
  | .inl a :: S' => k a S'
  | _ => False
def g2 (S : List GV) (k : Int → Int → List GV → Prop) : Prop := match S with
  | .inl b :: .inl a :: S' => k a b S'
  | _ => False
def gLl (S : List GV) (k : Int → Int → List GV → Prop) : Prop := match S with
  | .inr (.inr (.inl b)) :: .inr (.inr (.inl a)) :: S' => k a b S'
  | _ => False
def gRf (S : List GV) (k : Nat → List GV → Prop) : Prop := match S with
  | .inr (.inl a) :: S' => k a S'
  | _ => False
def gCel (sh : SH) (a : Nat) (k : GC → Prop) : Prop := match sh[a]? with
  | some c => k c
  | none => False
abbrev gIf (c : ClassFile.Cond) (a b : Int) : Prop := match c with
  | .eq => a = b
  | .ne => a ≠ b
  | .lt => a < b
  | .ge => b ≤ a
  | .gt => b < a
  | .le => a ≤ b
def gBr (p A B : Prop) : Prop := (p → A) ∧ (¬ p → B)
def gSw (a : Int) : Int → List Int → (Int → Prop) → Prop
  | _, [], _ => True
  | j, o :: t, k => (a = j → k o) ∧ gSw a (j + 1) t k
def gSel (i : Int) : Int → List (Option GV) → (GV → Prop) → Prop
  | _, [], _ => True
  | j, o :: t, k => (i = j → match o with
    | some v => k v
    | none => False) ∧ gSel i (j + 1) t k
def gDiv (a b : Int) : Int := (Int32.ofInt a / Int32.ofInt b).toInt
def gRem (a b : Int) : Int := (Int32.ofInt a - Int32.ofInt a / Int32.ofInt b * Int32.ofInt b).toInt
def gAnd (a b : Int) : Int := (Int32.ofInt a &&& Int32.ofInt b).toInt
def gOr (a b : Int) : Int := (Int32.ofInt a ||| Int32.ofInt b).toInt
def gShl (a b : Int) : Int := (Int32.ofInt a <<< (Int32.ofInt b &&& 31)).toInt
def gShr (a b : Int) : Int := (Int32.ofInt a >>> (Int32.ofInt b &&& 31)).toInt
def gAbs (a : Int) : Int := if 0 ≤ a then a else -a
def gWt : List GV → Nat
  | [] => 0
  | .inr (.inr (.inl _)) :: t => 2 + gWt t
  | _ :: t => 1 + gWt t
def gKind : ArrayType → Nat
  | .int => 100
  | .boolean => 101
  | .char => 102
  | _ => 0
def gIni : List Nat → List (Option GV)
  | [] => []
  | k :: t => (if k < 2 then none else some (gN 0)) :: gIni t
/-- a call of the method x with n arguments -/
def gInv (T : Nat → GM) (call : GCall) (P : GP) (pc : Nat) (L S : List GV) (sh : SH) (μ : MU) (mc ms x n : Nat) : Prop :=
  gIs (Nat.ble n S.length && Nat.ble (gWt (S.drop n)) 8 && Nat.ble (T x).2.2.2.2.1 mc && Nat.ble (T x).2.2.2.2.2.1 ms)
  (call x (S.take n).reverse sh μ (fun r sh' μ' => P (pc + 3) L (r.toList ++ S.drop n) sh' μ' (mc - (T x).2.2.2.2.1) (ms - (T x).2.2.2.2.2.1)))
def gCopy (P : GP) (pc : Nat) (L S : List GV) (sh : SH) (μ : MU) (mc ms : Nat) : Prop := match S with
  | .inl n :: .inl dp :: .inr (.inl b) :: .inl sp :: .inr (.inl a) :: S' => gCel sh a fun ca => gCel sh b fun cb => gIs (Nat.beq ca.1 100 && Nat.beq cb.1 100 && Nat.ble (gWt S') 8) ((0 ≤ sp ∧ 0 ≤ dp ∧ 0 ≤ n ∧ sp + n ≤ ca.2.1 ∧ dp + n ≤ cb.2.1) ∧ P (pc + 3) L S' sh (gCp μ a sp b dp n) mc ms)
  | _ => False
def gPut (F : Nat → List Nat) (P : GP) (pc : Nat) (L S : List GV) (sh : SH) (μ : MU) (mc ms x : Nat) (y : Int) : Prop := match S with
  | .inl n :: .inr (.inl a) :: S' => gCel sh a fun c => gIs (Nat.beq c.1 x) (match c.2.2[y.toNat]?, (F x)[y.toNat]? with
    | some none, some 0 => P (pc + 3) L S' sh (gW μ a y n) mc ms
    | some none, some 1 => (n = 0 ∨ n = 1) ∧ P (pc + 3) L S' sh (gW μ a y n) mc ms
    | _, _ => False)
  | .inr (.inl r) :: .inr (.inl a) :: S' => gCel sh a fun c => gIs (Nat.beq c.1 x) (match c.2.2[y.toNat]?, (F x)[y.toNat]? with
    | some (some _), some 2 => P (pc + 3) L S' (sh.set a (c.1, c.2.1, c.2.2.set y.toNat (some (gR r)))) μ mc ms
    | _, _ => False)
  | _ => False
def gGet (P : GP) (pc : Nat) (L S : List GV) (sh : SH) (μ : MU) (mc ms x : Nat) (y : Int) : Prop := gRf S fun a S' => gCel sh a fun c => gIs (Nat.beq c.1 x) (match c.2.2[y.toNat]? with
    | some none => P (pc + 3) L (gI (μ a y) :: S') sh μ mc ms
    | some (some v) => P (pc + 3) L (v :: S') sh μ mc ms
    | none => False)
def gAld (kind : Nat) (N : Int) (X : Int → Int) (u : Bool) (P : GP) (pc : Nat) (L S : List GV) (sh : SH) (μ : MU) (mc ms : Nat) : Prop := match S with
  | .inl i :: .inr (.inl a) :: S' => gCel sh a fun c => gIs (Nat.beq c.1 kind) ((0 ≤ i ∧ i < c.2.1) ∧ P (pc + 1) L (gI (μ a i) :: S') sh μ mc ms)
  | .inl i :: .inr (.inr (.inr 1)) :: S' => gIs (u && Nat.beq kind 100) ((0 ≤ i ∧ i < N) ∧ P (pc + 1) L (gI (X i) :: S') sh μ mc ms)
  | _ => False
def gAst (kind : Nat) (P : GP) (pc : Nat) (L S : List GV) (sh : SH) (μ : MU) (mc ms : Nat) : Prop := match S with
  | .inl v :: .inl i :: .inr (.inl a) :: S' => gCel sh a fun c => gIs (Nat.beq c.1 kind) ((0 ≤ i ∧ i < c.2.1) ∧ (match kind with
    | 100 => P (pc + 1) L S' sh (gW μ a i v) mc ms
    | 101 => (v = 0 ∨ v = 1) ∧ P (pc + 1) L S' sh (gW μ a i v) mc ms
    | 102 => (0 ≤ v ∧ v < 65536) ∧ P (pc + 1) L S' sh (gW μ a i v) mc ms
    | _ => False))
  | _ => False
def gStI (T : Nat → GM) (F : Nat → List Nat) (call : GCall) (N : Int) (X : Int → Int) (M : GM) (Q : GQ) (P : GP) (pc : Nat) (L S : List GV) (sh : SH) (μ : MU) (mc ms : Nat) (i : Instr) (x : Nat) (y : Int) : Prop := match i with
  | .aload_n k => gLd 1 L[(k : Nat)]? fun v => P (pc + 1) L (v :: S) sh μ mc ms
  | .aload k => gLd 1 L[k]? fun v => P (pc + 2) L (v :: S) sh μ mc ms
  | .iload_n k => gLd 0 L[(k : Nat)]? fun v => P (pc + 1) L (v :: S) sh μ mc ms
  | .iload k => gLd 0 L[k]? fun v => P (pc + 2) L (v :: S) sh μ mc ms
  | .lload_n k => gLd 2 L[(k : Nat)]? fun v => P (pc + 1) L (v :: S) sh μ mc ms
  | .lload k => gLd 2 L[k]? fun v => P (pc + 2) L (v :: S) sh μ mc ms
  | .istore_n k => g1 S fun a S' => gSt L k (gI a) fun L' => P (pc + 1) L' S' sh μ mc ms
  | .istore k => g1 S fun a S' => gSt L k (gI a) fun L' => P (pc + 2) L' S' sh μ mc ms
  | .astore_n k => (match S with
    | v :: S' => gIs (gTr v) (gSt L k v fun L' => P (pc + 1) L' S' sh μ mc ms)
    | [] => False)
  | .lstore_n k => (match S with
    | .inr (.inr (.inl a)) :: S' => gSt2 L k (gL a) fun L' => P (pc + 1) L' S' sh μ mc ms
    | _ => False)
  | .lstore k => (match S with
    | .inr (.inr (.inl a)) :: S' => gSt2 L k (gL a) fun L' => P (pc + 2) L' S' sh μ mc ms
    | _ => False)
  | .iinc k n => (match L[k]? with
    | some (.inl a) => gIs (decide (-2147483648 ≤ n) && decide (n < 2147483648)) (gOk (a + n) ∧ gSt L k (gI (a + n)) fun L' => P (pc + 3) L' S sh μ mc ms)
    | _ => False)
  | .iconst n => gIs (decide (-2147483648 ≤ n) && decide (n < 2147483648)) (P (pc + 1) L (gI n :: S) sh μ mc ms)
  | .bipush n => gIs (decide (-128 ≤ n) && decide (n < 128)) (P (pc + 2) L (gI n :: S) sh μ mc ms)
  | .sipush n => gIs (decide (-32768 ≤ n) && decide (n < 32768)) (P (pc + 3) L (gI n :: S) sh μ mc ms)
  | .ldc _ => gIs (decide (-2147483648 ≤ y) && decide (y < 2147483648)) (P (pc + 2) L (gI y :: S) sh μ mc ms)
  | .ldc2_w _ => P (pc + 3) L (gL y :: S) sh μ mc ms
  | .aconst_null => P (pc + 1) L (gN 0 :: S) sh μ mc ms
  | .dup => (match S with
    | v :: S' => gIs (gC1 v) (P (pc + 1) L (v :: v :: S') sh μ mc ms)
    | [] => False)
  | .dup2 => (match S with
    | v :: w :: S' => gIs (gC1 v && gC1 w) (P (pc + 1) L (v :: w :: v :: w :: S') sh μ mc ms)
    | _ => False)
  | .pop => (match S with
    | v :: S' => gIs (gC1 v) (P (pc + 1) L S' sh μ mc ms)
    | [] => False)
  | .iadd => g2 S fun a b S' => gOk (a + b) ∧ P (pc + 1) L (gI (a + b) :: S') sh μ mc ms
  | .isub => g2 S fun a b S' => gOk (a - b) ∧ P (pc + 1) L (gI (a - b) :: S') sh μ mc ms
  | .imul => g2 S fun a b S' => gOk (a * b) ∧ P (pc + 1) L (gI (a * b) :: S') sh μ mc ms
  | .ineg => g1 S fun a S' => gOk (-a) ∧ P (pc + 1) L (gI (-a) :: S') sh μ mc ms
  | .idiv => g2 S fun a b S' => b ≠ 0 ∧ gOk b ∧ P (pc + 1) L (gI (gDiv a b) :: S') sh μ mc ms
  | .irem => g2 S fun a b S' => b ≠ 0 ∧ gOk b ∧ P (pc + 1) L (gI (gRem a b) :: S') sh μ mc ms
  | .iand => g2 S fun a b S' => P (pc + 1) L (gI (gAnd a b) :: S') sh μ mc ms
  | .ior => g2 S fun a b S' => P (pc + 1) L (gI (gOr a b) :: S') sh μ mc ms
  | .ishl => g2 S fun a b S' => P (pc + 1) L (gI (gShl a b) :: S') sh μ mc ms
  | .ishr => g2 S fun a b S' => P (pc + 1) L (gI (gShr a b) :: S') sh μ mc ms
  | .i2l => g1 S fun a S' => P (pc + 1) L (gL a :: S') sh μ mc ms
  | .i2c => g1 S fun a S' => (0 ≤ a ∧ a < 65536) ∧ P (pc + 1) L (gI a :: S') sh μ mc ms
  | .ladd => gLl S fun a b S' => P (pc + 1) L (gL (a + b) :: S') sh μ mc ms
  | .lmul => gLl S fun a b S' => P (pc + 1) L (gL (a * b) :: S') sh μ mc ms
  | .lcmp => gLl S fun a b S' => a = b ∧ P (pc + 1) L (gI 0 :: S') sh μ mc ms
  | .if_icmp c _ => g2 S fun a b S' => gBr (gIf c a b) (P x L S' sh μ mc ms) (P (pc + 3) L S' sh μ mc ms)
  | .ifCond c _ => g1 S fun a S' => gBr (gIf c a 0) (P x L S' sh μ mc ms) (P (pc + 3) L S' sh μ mc ms)
  | .ifnull _ => (match S with
    | .inr (.inl _) :: S' => P (pc + 3) L S' sh μ mc ms
    | .inr (.inr (.inr 0)) :: S' => P x L S' sh μ mc ms
    | _ => False)
  | .ifnonnull _ => (match S with
    | .inr (.inl _) :: S' => P x L S' sh μ mc ms
    | .inr (.inr (.inr 0)) :: S' => P (pc + 3) L S' sh μ mc ms
    | _ => False)
  | .goto _ => P x L S sh μ mc ms
  | .tableswitch d lo hi offs => g1 S fun a S' => gIs (decide ((offs.size : Int) = hi - lo + 1) && decide (0 ≤ (pc : Int) + d)) ((a < lo ∨ hi < a → P ((pc : Int) + d).toNat L S' sh μ mc ms) ∧ gSw a lo offs.toList fun o => gIs (decide (0 ≤ (pc : Int) + o)) (P ((pc : Int) + o).toNat L S' sh μ mc ms))
  | .getfield _ => gGet P pc L S sh μ mc ms x y
  | .putfield _ => gPut F P pc L S sh μ mc ms x y
  | .iaload => gAld 100 N X M.2.2.2.2.2.2 P pc L S sh μ mc ms
  | .baload => gAld 101 N X M.2.2.2.2.2.2 P pc L S sh μ mc ms
  | .caload => gAld 102 N X M.2.2.2.2.2.2 P pc L S sh μ mc ms
  | .aaload => (match S with
    | .inl i :: .inr (.inl a) :: S' => gCel sh a fun c => gIs (Nat.beq c.1 103 && Nat.beq c.2.1 c.2.2.length) ((0 ≤ i ∧ i < c.2.1) ∧ gSel i 0 c.2.2 fun v => P (pc + 1) L (v :: S') sh μ mc ms)
    | _ => False)
  | .arraylength => (match S with
    | .inr (.inl a) :: S' => gCel sh a fun c => gIs (Nat.ble 100 c.1 && Nat.ble c.1 102 && Nat.blt c.2.1 2147483648) (P (pc + 1) L (gI c.2.1 :: S') sh μ mc ms)
    | .inr (.inr (.inr 1)) :: S' => gIs M.2.2.2.2.2.2 (P (pc + 1) L (gI N :: S') sh μ mc ms)
    | _ => False)
  | .iastore => gAst 100 P pc L S sh μ mc ms
  | .bastore => gAst 101 P pc L S sh μ mc ms
  | .castore => gAst 102 P pc L S sh μ mc ms
  | .aastore => (match S with
    | .inr (.inl r) :: .inl i :: .inr (.inl a) :: S' => gCel sh a fun c => gCel sh r fun c' => gIs (Nat.beq c.1 103 && Nat.beq c'.1 x) ((0 ≤ i ∧ i < c.2.1) ∧ P (pc + 1) L S' (sh.set a (c.1, c.2.1, c.2.2.set i.toNat (some (gR r)))) μ mc ms)
    | _ => False)
  | .newarray t => g1 S fun n S' => gIs (decide (0 ≤ n) && decide (n ≤ 100000) && Nat.ble 100 (gKind t) && Nat.ble 1 mc && Nat.ble n.toNat ms) (P (pc + 2) L (gR sh.length :: S') (sh ++ [(gKind t, n.toNat, [])]) (gZ μ sh.length) (mc - 1) (ms - n.toNat))
  | .anewarray _ => g1 S fun n S' => gIs (decide (0 ≤ n) && decide (n ≤ 100000) && Nat.ble 1 mc && Nat.ble n.toNat ms) (P (pc + 3) L (gR sh.length :: S') (sh ++ [(103, n.toNat, List.replicate n.toNat (some (gN 0)))]) (gZ μ sh.length) (mc - 1) (ms - n.toNat))
  | .new _ => gIs (Nat.ble 1 mc && Nat.ble y.toNat ms) (P (pc + 3) L (gR sh.length :: S) (sh ++ [(x, y.toNat, gIni (F x))]) (gZ μ sh.length) (mc - 1) (ms - y.toNat))
  | .invokestatic _ => (match x with
    | 1001 => gCopy P pc L S sh μ mc ms
    | 1002 => g1 S fun a S' => gIs (Nat.ble (gWt S') 8) (gOk (-a) ∧ P (pc + 3) L (gI (gAbs a) :: S') sh μ mc ms)
    | 1003 => g2 S fun a b S' => gIs (Nat.ble (gWt S') 8) (P (pc + 3) L (gI (max a b) :: S') sh μ mc ms)
    | 1004 => g2 S fun a b S' => gIs (Nat.ble (gWt S') 8) (P (pc + 3) L (gI (min a b) :: S') sh μ mc ms)
    | _ => gInv T call P pc L S sh μ mc ms x y.toNat)
  | .invokevirtual _ => (match S[y.toNat - 1]? with
    | some (.inr (.inl a)) => gCel sh a fun c => gIs (Nat.ble 1 y.toNat && Nat.beq c.1 (T x).1) (gInv T call P pc L S sh μ mc ms x y.toNat)
    | _ => False)
  | .invokespecial _ => (match Nat.beq x 1000 with
    | true => gRf S fun _ S' => gIs (Nat.ble (gWt S') 8) (P (pc + 3) L S' sh μ mc ms)
    | false => match S[y.toNat - 1]? with
      | some (.inr (.inl _)) => gIs (Nat.ble 1 y.toNat) (gInv T call P pc L S sh μ mc ms x y.toNat)
      | _ => False)
  | .ireturn => (match S, M.2.2.2.1 with
    | [.inl a], 1 => Q (some (gI a)) sh μ
    | [.inl a], 2 => (a = 0 ∨ a = 1) ∧ Q (some (gI a)) sh μ
    | _, _ => False)
  | .lreturn => (match S, M.2.2.2.1 with
    | [.inr (.inr (.inl a))], 3 => Q (some (gL a)) sh μ
    | _, _ => False)
  | .areturn => (match S, M.2.2.2.1 with
    | [v], 4 => gIs (gTr v) (Q (some v) sh μ)
    | _, _ => False)
  | .return_ => (match S, M.2.2.2.1 with
    | [], 0 => Q none sh μ
    | _, _ => False)
  | _ => False
def gStep (T : Nat → GM) (F : Nat → List Nat) (call : GCall) (N : Int) (X : Int → Int) (M : GM) (Q : GQ) (P : GP) : GP := fun pc L S sh μ mc ms => match gAt M.2.1 pc with
  | some (i, x, y) => gStI T F call N X M Q P pc L S sh μ mc ms i x y
  | none => False
/-- the run comes to its end with Q: the least predicate that one step keeps -/
def gG (T : Nat → GM) (F : Nat → List Nat) (call : GCall) (N : Int) (X : Int → Int) (M : GM) (Q : GQ) : GP := fun pc L S sh μ mc ms =>
  ∀ P : GP, (∀ P0 pc L S sh μ mc ms, (∀ pc L S sh μ mc ms, P0 pc L S sh μ mc ms → P pc L S sh μ mc ms) → gStep T F call N X M Q P0 pc L S sh μ mc ms → P pc L S sh μ mc ms) → P pc L S sh μ mc ms
theorem gG_step {T F call N X M Q} {P0 : GP} {pc : Nat} {L S : List GV} {sh : SH} {μ : MU} {mc ms : Nat} (h0 : ∀ pc L S sh μ mc ms, P0 pc L S sh μ mc ms → gG T F call N X M Q pc L S sh μ mc ms) (h : gStep T F call N X M Q P0 pc L S sh μ mc ms) : gG T F call N X M Q pc L S sh μ mc ms :=
  fun P hP => hP P0 pc L S sh μ mc ms (fun pc L S sh μ mc ms q => h0 pc L S sh μ mc ms q P hP) h
def gArgs : List GV → List GV
  | [] => []
  | .inr (.inr (.inl a)) :: t => gL a :: gN 2 :: gArgs t
  | v :: t => v :: gArgs t
def gIn (n : Nat) (as : List GV) : List GV := gArgs as ++ List.replicate (n - (gArgs as).length) (gN 2)
def gCall (T : Nat → GM) (F : Nat → List Nat) (N : Int) (X : Int → Int) : Nat → GCall
  | 0 => fun _ _ _ _ _ => False
  | d + 1 => fun j as sh μ Q => gIs (Nat.ble (gArgs as).length (T j).2.2.1) <| gG T F (gCall T F N X d) N X (T j) Q 0 (gIn (T j).2.2.1 as) [] sh μ (T j).2.2.2.2.1 (T j).2.2.2.2.2.1
/-- n steps, or up to a cut -/
def gJ (b : Bool) (A B : Prop) : Prop := match b with
  | true => A
  | false => B
def gB (T : Nat → GM) (F : Nat → List Nat) (call : GCall) (N : Int) (X : Int → Int) (M : GM) (Q : GQ) (cut : List Nat) : Nat → GP
  | 0 => gG T F call N X M Q
  | n + 1 => gStep T F call N X M Q fun pc L S sh μ mc ms => gJ (cut.elem pc) (gG T F call N X M Q pc L S sh μ mc ms) (gB T F call N X M Q cut n pc L S sh μ mc ms)
theorem gB_gG {T F call N X M Q} (cut : List Nat) : ∀ (n : Nat) {pc : Nat} {L S : List GV} {sh : SH} {μ : MU} {mc ms : Nat}, gB T F call N X M Q cut n pc L S sh μ mc ms → gG T F call N X M Q pc L S sh μ mc ms
  | 0, _, _, _, _, _, _, _, h => h
  | n + 1, _, _, _, _, _, _, _, h => gG_step (fun pc L S sh μ mc ms q => by
      cases hb : cut.elem pc with
      | true => rw [hb] at q; exact q
      | false => rw [hb] at q; exact gB_gG cut n q) h
theorem gIs_t {b : Bool} {A : Prop} (h : gIs b A) : b = true ∧ A := by
  cases b
  · exact h.elim
  · exact ⟨rfl, h⟩
theorem gIs_i {b : Bool} {A : Prop} (hb : b = true) (h : A) : gIs b A := by subst hb; exact h
theorem gC {T F} {N : Int} {X : Int → Int} (n : Nat) (cut : List Nat) {d j : Nat} {as : List GV} {sh : SH} {μ : MU} {Q : GQ} (hb : Nat.ble (gArgs as).length (T j).2.2.1 = true) (h : gB T F (gCall T F N X d) N X (T j) Q cut n 0 (gIn (T j).2.2.1 as) [] sh μ (T j).2.2.2.2.1 (T j).2.2.2.2.2.1) : gCall T F N X (d + 1) j as sh μ Q :=
  gIs_i hb (gB_gG cut n h)
end
section
/-! ===== what the small machine's values and cells are in the real one ===== -/
def gVr (ad : List Nat) (b : Nat) : GV → Value → Prop
  | .inl n, v => v = .int (Int32.ofInt n) ∧ gOk n
  | .inr (.inl k), v => ∃ a, ad[k]? = some a ∧ v = .ref a
  | .inr (.inr (.inl n)), v => v = .long (Int64.ofInt n)
  | .inr (.inr (.inr 0)), v => v = .null
  | .inr (.inr (.inr 1)), v => v = .ref b
  | _, _ => False
def gHv : GV → Bool
  | .inr (.inr (.inr k)) => Nat.blt k 2
  | _ => true
def gSr (ad : List Nat) (b : Nat) : List GV → List Value → Prop
  | [], [] => True
  | v :: S, w :: st => gVr ad b v w ∧ gSr ad b S st
  | _, _ => False
def gLv (ad : List Nat) (b : Nat) (L : List GV) (lv : List (Nat × Value)) : Prop := ∀ (i : Nat) (v : GV), L[i]? = some v → gHv v = true → ∃ w, (i, w) ∈ lv ∧ gVr ad b v w
def gLr (ad : List Nat) (b : Nat) (L : List GV) (ls : Array Slot) : Prop := ∃ lv, lv_has ls L.length lv ∧ gLv ad b L lv
def gCe (cA : Nat → ClassId) (ad : List Nat) (b : Nat) (c : GC) (r : Int → Int) (e : va_E) : Prop :=
  (c.1 < 100 ∧ c.2.2.length = c.2.1 ∧ ∃ fs : List Value, e = .inr (c.1, fs) ∧ fs.length = c.2.1 ∧ ∀ (k : Nat) (o : Option GV), c.2.2[k]? = some o → ∃ w, fs[k]? = some w ∧ (match o with
    | none => gVr ad b (gI (r k)) w
    | some v => gTr v = true ∧ gVr ad b v w))
  ∨ (100 ≤ c.1 ∧ c.1 < 103 ∧ ∃ f : Nat → Int32, e = .inl (cA (c.1 - 100), c.2.1, .inl f) ∧ ∀ j : Nat, j < c.2.1 → f j = Int32.ofInt (r j) ∧ gOk (r j))
  ∨ (c.1 = 103 ∧ c.2.2.length = c.2.1 ∧ ∃ f : Nat → Option Nat, e = .inl (cA 3, c.2.1, .inr (.inr (.inr (.inr f)))) ∧ ∀ (j : Nat) (o : Option GV), c.2.2[j]? = some o → (o = some (gN 0) ∧ f j = none) ∨ ∃ k a, o = some (gR k) ∧ ad[k]? = some a ∧ f j = some a)
def gWr (cA : Nat → ClassId) (a0 ad : List Nat) (b : Nat) (sh : SH) (μ : MU) (ws : va_W) : Prop := ws.map Prod.fst = ad ∧ ws.length = sh.length ∧ (∀ (k : Nat) (c : GC), sh[k]? = some c → ∃ q : Nat × va_E, ws[k]? = some q ∧ gCe cA ad b c (μ k) q.2) ∧ ∀ k a : Nat, a0[k]? = some a → ad[k]? = some a
theorem g_toInt {n : Int} (h : gOk n) : (Int32.ofInt n).toInt = n := Int32.toInt_ofInt_of_le (by have := h.1; omega) (by have := h.2; omega)
theorem g_le {a b : Int} (ha : gOk a) (hb : gOk b) : Int32.ofInt a ≤ Int32.ofInt b ↔ a ≤ b := by rw [Int32.le_iff_toInt_le, g_toInt ha, g_toInt hb]
theorem g_lt {a b : Int} (ha : gOk a) (hb : gOk b) : Int32.ofInt a < Int32.ofInt b ↔ a < b := by rw [Int32.lt_iff_toInt_lt, g_toInt ha, g_toInt hb]
theorem g_eq {a b : Int} (ha : gOk a) (hb : gOk b) : Int32.ofInt a = Int32.ofInt b ↔ a = b := by rw [← Int32.toInt_inj, g_toInt ha, g_toInt hb]
theorem g_cl {a : Int} (ha : gOk a) : (Int32.ofInt a).toNatClampNeg = a.toNat := by rw [← Int32.toNat_toInt, g_toInt ha]
theorem g_rng (x : Int32) : gOk x.toInt := ⟨Int32.le_toInt x, Int32.toInt_lt x⟩
theorem g_in {i : Int} {n : Nat} (hi : gOk i) (h0 : 0 ≤ i) (h1 : i < n) : vp_in (Int32.ofInt i) n := vp_in_iff.mpr (by rw [g_toInt hi]; exact ⟨h0, h1⟩)
theorem gVr.cat {ad : List Nat} {b : Nat} {v : GV} {w : Value} (h : gVr ad b v w) (hc : gC1 v = true) : w.category = 1 := by
  rcases v with n | k | n | k
  · rw [h.1]; rfl
  · obtain ⟨a, -, rfl⟩ := h; rfl
  · cases hc
  · match k, h with
    | 0, h => rw [show w = .null from h]; rfl
    | 1, h => rw [show w = .ref b from h]; rfl
theorem gVr.nl {ad : List Nat} {b : Nat} {v : GV} {w : Value} (h : gVr ad b v w) (hc : ∀ n, v ≠ gL n) : w.category = 1 := by
  rcases v with n | k | n | k
  · rw [h.1]; rfl
  · obtain ⟨a, -, rfl⟩ := h; rfl
  · exact absurd rfl (hc n)
  · match k, h with
    | 0, h => rw [show w = .null from h]; rfl
    | 1, h => rw [show w = .ref b from h]; rfl
theorem gVr.mono {ad ad' : List Nat} {b : Nat} (ha : ∀ (k a : Nat), ad[k]? = some a → ad'[k]? = some a) {v : GV} {w : Value} (h : gVr ad b v w) : gVr ad' b v w := by
  rcases v with n | k | n | k
  · exact h
  · obtain ⟨a, h1, h2⟩ := h; exact ⟨a, ha k a h1, h2⟩
  · exact h
  · match k, h with
    | 0, h => exact h
    | 1, h => exact h
theorem gSr.mono {ad ad' : List Nat} {b : Nat} (ha : ∀ (k a : Nat), ad[k]? = some a → ad'[k]? = some a) : ∀ {S : List GV} {st : List Value}, gSr ad b S st → gSr ad' b S st
  | [], [], _ => trivial
  | _ :: _, _ :: _, h => ⟨h.1.mono ha, gSr.mono ha h.2⟩
theorem gLr.mono {ad ad' : List Nat} {b : Nat} (ha : ∀ (k a : Nat), ad[k]? = some a → ad'[k]? = some a) {L : List GV} {ls : Array Slot} (h : gLr ad b L ls) : gLr ad' b L ls := by
  obtain ⟨lv, h1, h2⟩ := h
  refine ⟨lv, h1, fun i v hv hh => ?_⟩
  obtain ⟨w, h3, h4⟩ := h2 i v hv hh
  exact ⟨w, h3, h4.mono ha⟩
theorem gCe.mono {cA : Nat → ClassId} {ad ad' : List Nat} {b : Nat} (ha : ∀ (k a : Nat), ad[k]? = some a → ad'[k]? = some a) {c : GC} {r : Int → Int} {e : va_E} (h : gCe cA ad b c r e) : gCe cA ad' b c r e := by
  rcases h with ⟨h1, h2, fs, h3, h4, h5⟩ | h | ⟨h1, h2, f, h3, h4⟩
  · refine Or.inl ⟨h1, h2, fs, h3, h4, fun k o ho => ?_⟩
    obtain ⟨w, h6, h7⟩ := h5 k o ho
    refine ⟨w, h6, ?_⟩
    cases o with
    | none => exact h7
    | some v => exact ⟨h7.1, h7.2.mono ha⟩
  · exact Or.inr (Or.inl h)
  · refine Or.inr (Or.inr ⟨h1, h2, f, h3, fun j o ho => ?_⟩)
    rcases h4 j o ho with h | ⟨k, a, h5, h6, h7⟩
    · exact Or.inl h
    · exact Or.inr ⟨k, a, h5, ha k a h6, h7⟩
theorem gWr.at {cA : Nat → ClassId} {a0 ad : List Nat} {b : Nat} {sh : SH} {μ : MU} {ws : va_W} (h : gWr cA a0 ad b sh μ ws) {k a : Nat} {c : GC} (hk : sh[k]? = some c) (ha : ad[k]? = some a) : ∃ e, ws[k]? = some (a, e) ∧ gCe cA ad b c (μ k) e := by
  obtain ⟨q, h1, h2⟩ := h.2.2.1 k c hk
  refine ⟨q.2, ?_, h2⟩
  rw [← h.1, List.getElem?_map, h1] at ha
  cases ha
  exact h1
theorem gLr.get {ad : List Nat} {b : Nat} {L : List GV} {ls : Array Slot} (h : gLr ad b L ls) {i : Nat} {v : GV} (hv : L[i]? = some v) (hh : gHv v = true) : ∃ w, ls[i]? = some (.val w) ∧ gVr ad b v w := by
  obtain ⟨lv, h1, h2⟩ := h
  obtain ⟨w, h3, h4⟩ := h2 i v hv hh
  exact ⟨w, h1.2.2 _ h3, h4⟩
theorem gLv.set {ad : List Nat} {b : Nat} {L : List GV} {lv : List (Nat × Value)} (h : gLv ad b L lv) {i : Nat} {v : GV} {w : Value} (hi : i < L.length) (hn : gNoL L i = true) (hv : gVr ad b v w) {ls' : Array Slot}
    (h' : lv_has ls' L.length ((i, w) :: lv.filter (fun q => !(q.1 == i) && !(q.1 + 1 == i && q.2.category == 2)))) : gLr ad b (L.set i v) ls' := by
  refine ⟨_, by rw [List.length_set]; exact h', fun j u hj hu => ?_⟩
  by_cases hji : j = i
  · subst hji
    rw [List.getElem?_set_self hi] at hj
    cases hj
    exact ⟨w, List.mem_cons_self, hv⟩
  · rw [List.getElem?_set_ne (Ne.symm hji)] at hj
    obtain ⟨w', hm, hr⟩ := h j u hj hu
    refine ⟨w', List.mem_cons_of_mem _ (List.mem_filter.mpr ⟨hm, ?_⟩), hr⟩
    by_cases hj1 : j + 1 = i
    · subst hj1
      have hc : w'.category = 1 := hr.nl (fun n hn' => by subst hn'; simp [gNoL, hj] at hn)
      simp [hc]
    · simp [hji, hj1]
theorem gLv.set2 {ad : List Nat} {b : Nat} {L : List GV} {lv : List (Nat × Value)} (h : gLv ad b L lv) {i : Nat} {v : GV} {w : Value} (hi : i + 1 < L.length) (hn : gNoL L i = true) (hv : gVr ad b v w) {ls' : Array Slot}
    (h' : lv_has ls' L.length ((i, w) :: lv.filter (fun q => !(q.1 == i) && (!(q.1 == i + 1) && !(q.1 + 1 == i && q.2.category == 2))))) : gLr ad b ((L.set i v).set (i + 1) (gN 2)) ls' := by
  refine ⟨_, by rw [List.length_set, List.length_set]; exact h', fun j u hj hu => ?_⟩
  by_cases hj2 : j = i + 1
  · subst hj2
    rw [List.getElem?_set_self (by rw [List.length_set]; exact hi)] at hj
    cases hj
    cases hu
  · rw [List.getElem?_set_ne (Ne.symm hj2)] at hj
    by_cases hji : j = i
    · subst hji
      rw [List.getElem?_set_self (by omega)] at hj
      cases hj
      exact ⟨w, List.mem_cons_self, hv⟩
    · rw [List.getElem?_set_ne (Ne.symm hji)] at hj
      obtain ⟨w', hm, hr⟩ := h j u hj hu
      refine ⟨w', List.mem_cons_of_mem _ (List.mem_filter.mpr ⟨hm, ?_⟩), hr⟩
      by_cases hj1 : j + 1 = i
      · subst hj1
        have hc : w'.category = 1 := hr.nl (fun n hn' => by subst hn'; simp [gNoL, hj] at hn)
        simp [hc, hj2]
      · simp [hji, hj1, hj2]
theorem gWr.set {cA : Nat → ClassId} {a0 ad : List Nat} {b : Nat} {sh : SH} {μ μ' : MU} {ws : va_W} (h : gWr cA a0 ad b sh μ ws) {k a : Nat} {c c' : GC} {e e' : va_E} (hk : sh[k]? = some c) (ha : ws[k]? = some (a, e)) (he : gCe cA ad b c' (μ' k) e') (ho : ∀ j, j ≠ k → μ' j = μ j) : gWr cA a0 ad b (sh.set k c') μ' (ws.set k (a, e')) := by
  have hkl := (List.getElem?_eq_some_iff.mp hk).1
  have hwl := (List.getElem?_eq_some_iff.mp ha).1
  refine ⟨?_, by rw [List.length_set, List.length_set]; exact h.2.1, fun j d hd => ?_, h.2.2.2⟩
  · rw [← h.1]
    apply List.ext_getElem?
    intro j
    rw [List.getElem?_map, List.getElem?_map]
    by_cases hj : j = k
    · subst hj; rw [List.getElem?_set_self hwl, ha]; rfl
    · rw [List.getElem?_set_ne (Ne.symm hj)]
  · by_cases hj : j = k
    · subst hj
      rw [List.getElem?_set_self hkl] at hd
      cases hd
      exact ⟨(a, e'), by rw [List.getElem?_set_self hwl], he⟩
    · rw [List.getElem?_set_ne (Ne.symm hj)] at hd
      obtain ⟨q, h1, h2⟩ := h.2.2.1 j d hd
      exact ⟨q, by rw [List.getElem?_set_ne (Ne.symm hj)]; exact h1, by rw [ho j hj]; exact h2⟩
theorem gWr.push {cA : Nat → ClassId} {a0 ad : List Nat} {b : Nat} {sh : SH} {μ μ' : MU} {ws : va_W} (h : gWr cA a0 ad b sh μ ws) {q : Nat} {c : GC} {e : va_E} (he : gCe cA (ad ++ [q]) b c (μ' sh.length) e) (ho : ∀ j, j ≠ sh.length → μ' j = μ j) : gWr cA a0 (ad ++ [q]) b (sh ++ [c]) μ' (ws ++ [(q, e)]) := by
  have hmono : ∀ (k a : Nat), ad[k]? = some a → (ad ++ [q])[k]? = some a := fun k a hk => by rw [List.getElem?_append_left (List.getElem?_eq_some_iff.mp hk).1]; exact hk
  refine ⟨by rw [List.map_append, h.1]; rfl, by rw [List.length_append, List.length_append, h.2.1]; rfl, fun j d hd => ?_, fun k a hk => hmono k a (h.2.2.2 k a hk)⟩
  by_cases hj : j < sh.length
  · rw [List.getElem?_append_left hj] at hd
    obtain ⟨x, h1, h2⟩ := h.2.2.1 j d hd
    exact ⟨x, by rw [List.getElem?_append_left (by rw [h.2.1]; exact hj)]; exact h1, by rw [ho j (by omega)]; exact h2.mono hmono⟩
  · rw [List.getElem?_append_right (by omega)] at hd
    have hz : j - sh.length < 1 := (List.getElem?_eq_some_iff.mp hd).1
    have hjj : j = sh.length := by omega
    subst hjj
    rw [Nat.sub_self] at hd
    cases hd
    exact ⟨(q, e), by rw [List.getElem?_append_right (by rw [h.2.1]; exact Nat.le_refl _), h.2.1, Nat.sub_self]; rfl, he⟩
theorem gWr.len {cA : Nat → ClassId} {a0 ad : List Nat} {b : Nat} {sh : SH} {μ : MU} {ws : va_W} (h : gWr cA a0 ad b sh μ ws) : ad.length = sh.length := by rw [← h.1, List.length_map, h.2.1]
theorem gVr.mkI {ad : List Nat} {b : Nat} {n : Int} (ok : gOk n) : gVr ad b (gI n) (.int (Int32.ofInt n)) := ⟨rfl, ok⟩
theorem gVr.mkL {ad : List Nat} {b : Nat} {n : Int} : gVr ad b (gL n) (.long (Int64.ofInt n)) := rfl
theorem gVr.mkN {ad : List Nat} {b : Nat} : gVr ad b (gN 0) .null := rfl
theorem gVr.mkR {ad : List Nat} {b k a : Nat} (h : ad[k]? = some a) : gVr ad b (gR k) (.ref a) := ⟨a, h, rfl⟩
theorem gSr.mk {ad : List Nat} {b : Nat} {v : GV} {w : Value} {S : List GV} {st : List Value} (hv : gVr ad b v w) (h : gSr ad b S st) : gSr ad b (v :: S) (w :: st) := ⟨hv, h⟩
theorem gWr.base {cA : Nat → ClassId} {a0 a1 ad : List Nat} {b : Nat} {sh : SH} {μ : MU} {ws : va_W} (h : gWr cA a0 ad b sh μ ws) (h1 : ∀ k a : Nat, a1[k]? = some a → ad[k]? = some a) : gWr cA a1 ad b sh μ ws := ⟨h.1, h.2.1, h.2.2.1, h1⟩
end
section
/-! ===== one step of the small machine is one row of the kit: locals, numbers, branches ===== -/
theorem gLd_0 {o : Option GV} {k : GV → Prop} (h : gLd 0 o k) : ∃ a, o = some (gI a) ∧ k (gI a) := by
  unfold gLd at h
  split at h
  · exact ⟨_, rfl, h⟩
  · rename_i q; exact absurd q (by decide)
  · rename_i q; exact absurd q (by decide)
  · rename_i q; exact absurd q (by decide)
  · rename_i q; exact absurd q (by decide)
  · exact h.elim
theorem gLd_1 {o : Option GV} {k : GV → Prop} (h : gLd 1 o k) : ∃ v, o = some v ∧ gTr v = true ∧ k v := by
  unfold gLd at h
  split at h
  · rename_i q; exact absurd q (by decide)
  · exact ⟨_, rfl, rfl, h⟩
  · exact ⟨_, rfl, rfl, h⟩
  · exact ⟨_, rfl, rfl, h⟩
  · rename_i q; exact absurd q (by decide)
  · exact h.elim
theorem gLd_2 {o : Option GV} {k : GV → Prop} (h : gLd 2 o k) : ∃ a, o = some (gL a) ∧ k (gL a) := by
  unfold gLd at h
  split at h
  · rename_i q; exact absurd q (by decide)
  · rename_i q; exact absurd q (by decide)
  · rename_i q; exact absurd q (by decide)
  · rename_i q; exact absurd q (by decide)
  · exact ⟨_, rfl, h⟩
  · exact h.elim
theorem gTr_of {ad : List Nat} {b : Nat} {v : GV} {w : Value} (ht : gTr v = true) (h : gVr ad b v w) : w = .null ∨ ∃ a, w = .ref a := by
  rcases v with n | k | n | k
  · cases ht
  · obtain ⟨a, -, rfl⟩ := h; exact Or.inr ⟨a, rfl⟩
  · cases ht
  · match k, h with
    | 0, h => exact Or.inl h
    | 1, h => exact Or.inr ⟨b, h⟩
theorem gTr_hv {v : GV} (ht : gTr v = true) : gHv v = true := by
  rcases v with n | k | n | k
  · cases ht
  · rfl
  · cases ht
  · exact ht
theorem g1_i {S : List GV} {k : Int → List GV → Prop} (h : g1 S k) : ∃ a S', S = gI a :: S' ∧ k a S' := by
  unfold g1 at h
  split at h
  · exact ⟨_, _, rfl, h⟩
  · exact h.elim
theorem g2_i {S : List GV} {k : Int → Int → List GV → Prop} (h : g2 S k) : ∃ a b S', S = gI b :: gI a :: S' ∧ k a b S' := by
  unfold g2 at h
  split at h
  · exact ⟨_, _, _, rfl, h⟩
  · exact h.elim
theorem gLl_i {S : List GV} {k : Int → Int → List GV → Prop} (h : gLl S k) : ∃ a b S', S = gL b :: gL a :: S' ∧ k a b S' := by
  unfold gLl at h
  split at h
  · exact ⟨_, _, _, rfl, h⟩
  · exact h.elim
theorem gRf_i {S : List GV} {k : Nat → List GV → Prop} (h : gRf S k) : ∃ a S', S = gR a :: S' ∧ k a S' := by
  unfold gRf at h
  split at h
  · exact ⟨_, _, rfl, h⟩
  · exact h.elim
theorem gCel_i {sh : SH} {a : Nat} {k : GC → Prop} (h : gCel sh a k) : ∃ c, sh[a]? = some c ∧ k c := by
  unfold gCel at h
  split at h
  · exact ⟨_, by assumption, h⟩
  · exact h.elim
theorem gSr.c1 {ad : List Nat} {b : Nat} {v : GV} {S : List GV} {st : List Value} (h : gSr ad b (v :: S) st) : ∃ w st', st = w :: st' ∧ gVr ad b v w ∧ gSr ad b S st' := by
  cases st with
  | nil => exact h.elim
  | cons w st' => exact ⟨w, st', rfl, h.1, h.2⟩
theorem gSr.i1 {ad : List Nat} {b : Nat} {n : Int} {S : List GV} {st : List Value} (h : gSr ad b (gI n :: S) st) : ∃ st', st = .int (Int32.ofInt n) :: st' ∧ gOk n ∧ gSr ad b S st' := by
  obtain ⟨w, st', rfl, ⟨rfl, h2⟩, h3⟩ := h.c1
  exact ⟨st', rfl, h2, h3⟩
theorem gSr.r1 {ad : List Nat} {b k : Nat} {S : List GV} {st : List Value} (h : gSr ad b (gR k :: S) st) : ∃ a st', st = .ref a :: st' ∧ ad[k]? = some a ∧ gSr ad b S st' := by
  obtain ⟨w, st', rfl, ⟨a, h1, rfl⟩, h3⟩ := h.c1
  exact ⟨a, st', rfl, h1, h3⟩
theorem gSr.l1 {ad : List Nat} {b : Nat} {n : Int} {S : List GV} {st : List Value} (h : gSr ad b (gL n :: S) st) : ∃ st', st = .long (Int64.ofInt n) :: st' ∧ gSr ad b S st' := by
  obtain ⟨w, st', rfl, h2, h3⟩ := h.c1
  exact ⟨st', by rw [show w = .long (Int64.ofInt n) from h2], h3⟩
theorem gSr.nil {ad : List Nat} {b : Nat} {st : List Value} (h : gSr ad b [] st) : st = [] := by
  cases st with
  | nil => rfl
  | cons w st' => exact h.elim
section GS
variable {p : Program} {l : Launch} {e : Env} {R : Room} {s : State} {m : MethodId} {args : Array Value} {below : List Frame} {meth : Method} {c : Code} {Qf : State → Prop}
variable {D : va_G} {cl : List vw_C} {cA : Nat → ClassId} {a0 : List Nat} {tys : List (ClassId × FieldType)} {A : Nat → Prop} {b MC MS : Nat} {cc : ByteArray}
def gSP (p : Program) (l : Launch) (e : Env) (R : Room) (s : State) (m : MethodId) (args : Array Value) (below : List Frame) (meth : Method) (c : Code) (Qf : State → Prop) (D : va_G) (cl : List vw_C) (cA : Nat → ClassId) (a0 : List Nat) (A : Nat → Prop) (b MC MS : Nat) : GP := fun pc L S sh μ mc ms =>
  ∀ (ad : List Nat) (ls : Array Slot) (st : List Value) (ws : va_W) (H : Heap) (locs : List Loc) (cells slots : Nat), c.maxLocals = L.length → gLr ad b L ls → gSr ad b S st → gWr cA a0 ad b sh μ ws → va_P D cl ws H → va_D A ws → va_S A s.heap H locs → cells + mc ≤ MC → slots + ms ≤ MS →
    W p l e R s m args below meth c H locs cells slots Qf (F0 m pc ls st)
variable {pc : Nat} {L S : List GV} {sh : SH} {μ : MU} {mc ms : Nat}
variable {P0 : GP}
theorem s_iload_n (hx : p.tables.exec = Jvm.exec) (hb : c.code = cc) {k : Fin 4} (hdg : decode cc pc = .ok (.iload_n k, 1)) (h0 : ∀ pc L S sh μ mc ms, P0 pc L S sh μ mc ms → gSP p l e R s m args below meth c Qf D cl cA a0 A b MC MS pc L S sh μ mc ms) (hs : gLd 0 L[(k : Nat)]? fun v => P0 (pc + 1) L (v :: S) sh μ mc ms) : gSP p l e R s m args below meth c Qf D cl cA a0 A b MC MS pc L S sh μ mc ms := by
  intro ad ls st ws H locs cells slots hnl hL hS hW hP hD hSf hc1 hc2
  obtain ⟨a, ha, hk⟩ := gLd_0 hs
  obtain ⟨w, hw, rfl, ok⟩ := hL.get ha rfl
  exact lv_iload_n hx hb hdg rfl hw (h0 _ _ _ _ _ _ _ hk ad ls _ ws H locs cells slots hnl hL (gSr.mk (gVr.mkI (ok)) hS) hW hP hD hSf hc1 hc2)
theorem s_iload (hx : p.tables.exec = Jvm.exec) (hb : c.code = cc) {k : Nat} (hdg : decode cc pc = .ok (.iload k, 2)) (h0 : ∀ pc L S sh μ mc ms, P0 pc L S sh μ mc ms → gSP p l e R s m args below meth c Qf D cl cA a0 A b MC MS pc L S sh μ mc ms) (hs : gLd 0 L[k]? fun v => P0 (pc + 2) L (v :: S) sh μ mc ms) : gSP p l e R s m args below meth c Qf D cl cA a0 A b MC MS pc L S sh μ mc ms := by
  intro ad ls st ws H locs cells slots hnl hL hS hW hP hD hSf hc1 hc2
  obtain ⟨a, ha, hk⟩ := gLd_0 hs
  obtain ⟨w, hw, rfl, ok⟩ := hL.get ha rfl
  exact lv_iload hx hb hdg hw (h0 _ _ _ _ _ _ _ hk ad ls _ ws H locs cells slots hnl hL (gSr.mk (gVr.mkI (ok)) hS) hW hP hD hSf hc1 hc2)
theorem s_lload_n (hx : p.tables.exec = Jvm.exec) (hb : c.code = cc) {k : Fin 4} (hdg : decode cc pc = .ok (.lload_n k, 1)) (h0 : ∀ pc L S sh μ mc ms, P0 pc L S sh μ mc ms → gSP p l e R s m args below meth c Qf D cl cA a0 A b MC MS pc L S sh μ mc ms) (hs : gLd 2 L[(k : Nat)]? fun v => P0 (pc + 1) L (v :: S) sh μ mc ms) : gSP p l e R s m args below meth c Qf D cl cA a0 A b MC MS pc L S sh μ mc ms := by
  intro ad ls st ws H locs cells slots hnl hL hS hW hP hD hSf hc1 hc2
  obtain ⟨a, ha, hk⟩ := gLd_2 hs
  obtain ⟨w, hw, hr⟩ := hL.get ha rfl
  rw [show w = .long (Int64.ofInt a) from hr] at hw
  exact lv_lload_n hx hb hdg rfl hw (h0 _ _ _ _ _ _ _ hk ad ls _ ws H locs cells slots hnl hL (gSr.mk gVr.mkL hS) hW hP hD hSf hc1 hc2)
theorem s_lload (hx : p.tables.exec = Jvm.exec) (hb : c.code = cc) {k : Nat} (hdg : decode cc pc = .ok (.lload k, 2)) (h0 : ∀ pc L S sh μ mc ms, P0 pc L S sh μ mc ms → gSP p l e R s m args below meth c Qf D cl cA a0 A b MC MS pc L S sh μ mc ms) (hs : gLd 2 L[k]? fun v => P0 (pc + 2) L (v :: S) sh μ mc ms) : gSP p l e R s m args below meth c Qf D cl cA a0 A b MC MS pc L S sh μ mc ms := by
  intro ad ls st ws H locs cells slots hnl hL hS hW hP hD hSf hc1 hc2
  obtain ⟨a, ha, hk⟩ := gLd_2 hs
  obtain ⟨w, hw, hr⟩ := hL.get ha rfl
  rw [show w = .long (Int64.ofInt a) from hr] at hw
  exact lv_lload hx hb hdg hw (h0 _ _ _ _ _ _ _ hk ad ls _ ws H locs cells slots hnl hL (gSr.mk gVr.mkL hS) hW hP hD hSf hc1 hc2)
theorem s_aload_n (hx : p.tables.exec = Jvm.exec) (hb : c.code = cc) {k : Fin 4} (hdg : decode cc pc = .ok (.aload_n k, 1)) (h0 : ∀ pc L S sh μ mc ms, P0 pc L S sh μ mc ms → gSP p l e R s m args below meth c Qf D cl cA a0 A b MC MS pc L S sh μ mc ms) (hs : gLd 1 L[(k : Nat)]? fun v => P0 (pc + 1) L (v :: S) sh μ mc ms) : gSP p l e R s m args below meth c Qf D cl cA a0 A b MC MS pc L S sh μ mc ms := by
  intro ad ls st ws H locs cells slots hnl hL hS hW hP hD hSf hc1 hc2
  obtain ⟨v, ha, ht, hk⟩ := gLd_1 hs
  obtain ⟨w, hw, hr⟩ := hL.get ha (gTr_hv ht)
  rcases gTr_of ht hr with rfl | ⟨a, rfl⟩
  · exact lv_aload_nN hx hb hdg rfl hw (h0 _ _ _ _ _ _ _ hk ad ls _ ws H locs cells slots hnl hL ⟨hr, hS⟩ hW hP hD hSf hc1 hc2)
  · exact lv_aload_n hx hb hdg rfl hw (h0 _ _ _ _ _ _ _ hk ad ls _ ws H locs cells slots hnl hL ⟨hr, hS⟩ hW hP hD hSf hc1 hc2)
theorem s_aload (hx : p.tables.exec = Jvm.exec) (hb : c.code = cc) {k : Nat} (hdg : decode cc pc = .ok (.aload k, 2)) (h0 : ∀ pc L S sh μ mc ms, P0 pc L S sh μ mc ms → gSP p l e R s m args below meth c Qf D cl cA a0 A b MC MS pc L S sh μ mc ms) (hs : gLd 1 L[k]? fun v => P0 (pc + 2) L (v :: S) sh μ mc ms) : gSP p l e R s m args below meth c Qf D cl cA a0 A b MC MS pc L S sh μ mc ms := by
  intro ad ls st ws H locs cells slots hnl hL hS hW hP hD hSf hc1 hc2
  obtain ⟨v, ha, ht, hk⟩ := gLd_1 hs
  obtain ⟨w, hw, hr⟩ := hL.get ha (gTr_hv ht)
  rcases gTr_of ht hr with rfl | ⟨a, rfl⟩
  · exact lv_aloadN hx hb hdg hw (h0 _ _ _ _ _ _ _ hk ad ls _ ws H locs cells slots hnl hL ⟨hr, hS⟩ hW hP hD hSf hc1 hc2)
  · exact lv_aload hx hb hdg hw (h0 _ _ _ _ _ _ _ hk ad ls _ ws H locs cells slots hnl hL ⟨hr, hS⟩ hW hP hD hSf hc1 hc2)
theorem gSt_i {L : List GV} {i : Nat} {v : GV} {k : List GV → Prop} (h : gSt L i v k) : i < L.length ∧ gNoL L i = true ∧ k (L.set i v) := by
  obtain ⟨h1, h2⟩ := gIs_t h
  rw [Bool.and_eq_true] at h1
  exact ⟨Nat.le_of_ble_eq_true h1.1, h1.2, h2⟩
theorem gSt2_i {L : List GV} {i : Nat} {v : GV} {k : List GV → Prop} (h : gSt2 L i v k) : i + 1 < L.length ∧ gNoL L i = true ∧ k ((L.set i v).set (i + 1) (gN 2)) := by
  obtain ⟨h1, h2⟩ := gIs_t h
  rw [Bool.and_eq_true] at h1
  exact ⟨Nat.le_of_ble_eq_true h1.1, h1.2, h2⟩
theorem s_istore_n (hx : p.tables.exec = Jvm.exec) (hb : c.code = cc) {k : Fin 4} (hdg : decode cc pc = .ok (.istore_n k, 1)) (h0 : ∀ pc L S sh μ mc ms, P0 pc L S sh μ mc ms → gSP p l e R s m args below meth c Qf D cl cA a0 A b MC MS pc L S sh μ mc ms) (hs : g1 S fun a S' => gSt L k (gI a) fun L' => P0 (pc + 1) L' S' sh μ mc ms) : gSP p l e R s m args below meth c Qf D cl cA a0 A b MC MS pc L S sh μ mc ms := by
  intro ad ls st ws H locs cells slots hnl hL hS hW hP hD hSf hc1 hc2
  obtain ⟨a, S', rfl, hs1⟩ := g1_i hs
  obtain ⟨hi, hn, hk⟩ := gSt_i hs1
  obtain ⟨st, rfl, ok, hS1⟩ := hS.i1
  obtain ⟨lv, hl, hlv⟩ := hL
  exact lv_istore_n hx hb hdg rfl hl hi rfl fun ls' hl' => h0 _ _ _ _ _ _ _ hk ad ls' _ ws H locs cells slots (by rw [List.length_set]; exact hnl) (hlv.set hi hn (gVr.mkI ok) hl') hS1 hW hP hD hSf hc1 hc2
theorem s_istore (hx : p.tables.exec = Jvm.exec) (hb : c.code = cc) {k : Nat} (hdg : decode cc pc = .ok (.istore k, 2)) (h0 : ∀ pc L S sh μ mc ms, P0 pc L S sh μ mc ms → gSP p l e R s m args below meth c Qf D cl cA a0 A b MC MS pc L S sh μ mc ms) (hs : g1 S fun a S' => gSt L k (gI a) fun L' => P0 (pc + 2) L' S' sh μ mc ms) : gSP p l e R s m args below meth c Qf D cl cA a0 A b MC MS pc L S sh μ mc ms := by
  intro ad ls st ws H locs cells slots hnl hL hS hW hP hD hSf hc1 hc2
  obtain ⟨a, S', rfl, hs1⟩ := g1_i hs
  obtain ⟨hi, hn, hk⟩ := gSt_i hs1
  obtain ⟨st, rfl, ok, hS1⟩ := hS.i1
  obtain ⟨lv, hl, hlv⟩ := hL
  exact lv_istore hx hb hdg hl hi rfl fun ls' hl' => h0 _ _ _ _ _ _ _ hk ad ls' _ ws H locs cells slots (by rw [List.length_set]; exact hnl) (hlv.set hi hn (gVr.mkI ok) hl') hS1 hW hP hD hSf hc1 hc2
theorem s_astore_n (hx : p.tables.exec = Jvm.exec) (hb : c.code = cc) {k : Fin 4} (hdg : decode cc pc = .ok (.astore_n k, 1)) (h0 : ∀ pc L S sh μ mc ms, P0 pc L S sh μ mc ms → gSP p l e R s m args below meth c Qf D cl cA a0 A b MC MS pc L S sh μ mc ms) {v : GV} (hs : gIs (gTr v) (gSt L k v fun L' => P0 (pc + 1) L' S sh μ mc ms)) : gSP p l e R s m args below meth c Qf D cl cA a0 A b MC MS pc L (v :: S) sh μ mc ms := by
  intro ad ls st ws H locs cells slots hnl hL hS hW hP hD hSf hc1 hc2
  obtain ⟨ht, hs1⟩ := gIs_t hs
  obtain ⟨hi, hn, hk⟩ := gSt_i hs1
  obtain ⟨w, st, rfl, hr, hS1⟩ := hS.c1
  obtain ⟨lv, hl, hlv⟩ := hL
  rcases gTr_of ht hr with rfl | ⟨a, rfl⟩
  · exact lv_astore_nN hx hb hdg rfl hl hi rfl fun ls' hl' => h0 _ _ _ _ _ _ _ hk ad ls' _ ws H locs cells slots (by rw [List.length_set]; exact hnl) (hlv.set hi hn hr hl') hS1 hW hP hD hSf hc1 hc2
  · exact lv_astore_n hx hb hdg rfl hl hi rfl fun ls' hl' => h0 _ _ _ _ _ _ _ hk ad ls' _ ws H locs cells slots (by rw [List.length_set]; exact hnl) (hlv.set hi hn hr hl') hS1 hW hP hD hSf hc1 hc2
theorem s_lstore_n (hx : p.tables.exec = Jvm.exec) (hb : c.code = cc) {k : Fin 4} (hdg : decode cc pc = .ok (.lstore_n k, 1)) (h0 : ∀ pc L S sh μ mc ms, P0 pc L S sh μ mc ms → gSP p l e R s m args below meth c Qf D cl cA a0 A b MC MS pc L S sh μ mc ms) {n : Int} (hs : gSt2 L k (gL n) fun L' => P0 (pc + 1) L' S sh μ mc ms) : gSP p l e R s m args below meth c Qf D cl cA a0 A b MC MS pc L (gL n :: S) sh μ mc ms := by
  intro ad ls st ws H locs cells slots hnl hL hS hW hP hD hSf hc1 hc2
  obtain ⟨hi, hn, hk⟩ := gSt2_i hs
  obtain ⟨st, rfl, hS1⟩ := hS.l1
  obtain ⟨lv, hl, hlv⟩ := hL
  exact lv_lstore_n hx hb hdg rfl hl hi rfl fun ls' hl' => h0 _ _ _ _ _ _ _ hk ad ls' _ ws H locs cells slots (by rw [List.length_set, List.length_set]; exact hnl) (hlv.set2 hi hn (show gVr ad b (gL n) (.long (Int64.ofInt n)) from rfl) hl') hS1 hW hP hD hSf hc1 hc2
theorem s_lstore (hx : p.tables.exec = Jvm.exec) (hb : c.code = cc) {k : Nat} (hdg : decode cc pc = .ok (.lstore k, 2)) (h0 : ∀ pc L S sh μ mc ms, P0 pc L S sh μ mc ms → gSP p l e R s m args below meth c Qf D cl cA a0 A b MC MS pc L S sh μ mc ms) {n : Int} (hs : gSt2 L k (gL n) fun L' => P0 (pc + 2) L' S sh μ mc ms) : gSP p l e R s m args below meth c Qf D cl cA a0 A b MC MS pc L (gL n :: S) sh μ mc ms := by
  intro ad ls st ws H locs cells slots hnl hL hS hW hP hD hSf hc1 hc2
  obtain ⟨hi, hn, hk⟩ := gSt2_i hs
  obtain ⟨st, rfl, hS1⟩ := hS.l1
  obtain ⟨lv, hl, hlv⟩ := hL
  exact lv_lstore hx hb hdg hl hi rfl fun ls' hl' => h0 _ _ _ _ _ _ _ hk ad ls' _ ws H locs cells slots (by rw [List.length_set, List.length_set]; exact hnl) (hlv.set2 hi hn (show gVr ad b (gL n) (.long (Int64.ofInt n)) from rfl) hl') hS1 hW hP hD hSf hc1 hc2
theorem s_iinc (hx : p.tables.exec = Jvm.exec) (hb : c.code = cc) {k : Nat} {n a : Int} (hdg : decode cc pc = .ok (.iinc k n, 3)) (h0 : ∀ pc L S sh μ mc ms, P0 pc L S sh μ mc ms → gSP p l e R s m args below meth c Qf D cl cA a0 A b MC MS pc L S sh μ mc ms) (ha : L[k]? = some (gI a)) (hs : gOk (a + n) ∧ gSt L k (gI (a + n)) fun L' => P0 (pc + 3) L' S sh μ mc ms) : gSP p l e R s m args below meth c Qf D cl cA a0 A b MC MS pc L S sh μ mc ms := by
  intro ad ls st ws H locs cells slots hnl hL hS hW hP hD hSf hc1 hc2
  obtain ⟨ok, hs⟩ := hs
  obtain ⟨hi, hn, hk⟩ := gSt_i hs
  obtain ⟨lv, hl, hlv⟩ := hL
  obtain ⟨w, hw, rfl, oka⟩ := hlv k (gI a) ha rfl
  obtain ⟨j, hj⟩ := List.getElem?_of_mem hw
  exact lv_iinc hx hb hdg hl hj (Int32.ofInt_add a n).symm hi rfl fun ls' hl' => h0 _ _ _ _ _ _ _ hk ad ls' _ ws H locs cells slots (by rw [List.length_set]; exact hnl) (hlv.set hi hn (gVr.mkI ok) hl') hS hW hP hD hSf hc1 hc2
theorem s_iconst (hx : p.tables.exec = Jvm.exec) (hb : c.code = cc) {n : Int} (hdg : decode cc pc = .ok (.iconst n, 1)) (h0 : ∀ pc L S sh μ mc ms, P0 pc L S sh μ mc ms → gSP p l e R s m args below meth c Qf D cl cA a0 A b MC MS pc L S sh μ mc ms) (ok : gOk n) (hk : P0 (pc + 1) L (gI n :: S) sh μ mc ms) : gSP p l e R s m args below meth c Qf D cl cA a0 A b MC MS pc L S sh μ mc ms := by
  intro ad ls st ws H locs cells slots hnl hL hS hW hP hD hSf hc1 hc2
  exact lv_iconst hx hb hdg rfl (h0 _ _ _ _ _ _ _ hk ad ls _ ws H locs cells slots hnl hL (gSr.mk (gVr.mkI (ok)) hS) hW hP hD hSf hc1 hc2)
theorem s_bipush (hx : p.tables.exec = Jvm.exec) (hb : c.code = cc) {n : Int} (hdg : decode cc pc = .ok (.bipush n, 2)) (h0 : ∀ pc L S sh μ mc ms, P0 pc L S sh μ mc ms → gSP p l e R s m args below meth c Qf D cl cA a0 A b MC MS pc L S sh μ mc ms) (h1 : -128 ≤ n) (h2 : n < 128) (hk : P0 (pc + 2) L (gI n :: S) sh μ mc ms) : gSP p l e R s m args below meth c Qf D cl cA a0 A b MC MS pc L S sh μ mc ms := by
  intro ad ls st ws H locs cells slots hnl hL hS hW hP hD hSf hc1 hc2
  have ok : gOk n := ⟨by omega, by omega⟩
  refine lv_bipush (v := Int32.ofInt n) hx hb hdg ?_ (h0 _ _ _ _ _ _ _ hk ad ls _ ws H locs cells slots hnl hL (gSr.mk (gVr.mkI (ok)) hS) hW hP hD hSf hc1 hc2)
  rw [← Int32.toInt_inj, g_toInt ok, Int8.toInt_toInt32, Int8.toInt_ofInt_of_le (by omega) (by omega)]
theorem s_sipush (hx : p.tables.exec = Jvm.exec) (hb : c.code = cc) {n : Int} (hdg : decode cc pc = .ok (.sipush n, 3)) (h0 : ∀ pc L S sh μ mc ms, P0 pc L S sh μ mc ms → gSP p l e R s m args below meth c Qf D cl cA a0 A b MC MS pc L S sh μ mc ms) (h1 : -32768 ≤ n) (h2 : n < 32768) (hk : P0 (pc + 3) L (gI n :: S) sh μ mc ms) : gSP p l e R s m args below meth c Qf D cl cA a0 A b MC MS pc L S sh μ mc ms := by
  intro ad ls st ws H locs cells slots hnl hL hS hW hP hD hSf hc1 hc2
  have ok : gOk n := ⟨by omega, by omega⟩
  refine lv_sipush (v := Int32.ofInt n) hx hb hdg ?_ (h0 _ _ _ _ _ _ _ hk ad ls _ ws H locs cells slots hnl hL (gSr.mk (gVr.mkI (ok)) hS) hW hP hD hSf hc1 hc2)
  rw [← Int32.toInt_inj, g_toInt ok, Int16.toInt_toInt32, Int16.toInt_ofInt_of_le (by omega) (by omega)]
theorem s_ldc (hx : p.tables.exec = Jvm.exec) (hb : c.code = cc) {own : String} {k : Nat} {n : Int} (hown : s.vm.findClass own = some m.cls) (hw : (Jvm.Cond.constant own k (Int32.ofInt n)).before args s = true) (hdg : decode cc pc = .ok (.ldc k, 2)) (h0 : ∀ pc L S sh μ mc ms, P0 pc L S sh μ mc ms → gSP p l e R s m args below meth c Qf D cl cA a0 A b MC MS pc L S sh μ mc ms) (ok : gOk n) (hk : P0 (pc + 2) L (gI n :: S) sh μ mc ms) : gSP p l e R s m args below meth c Qf D cl cA a0 A b MC MS pc L S sh μ mc ms := by
  intro ad ls st ws H locs cells slots hnl hL hS hW hP hD hSf hc1 hc2
  exact lv_ldc hx hb hown hw hdg (h0 _ _ _ _ _ _ _ hk ad ls _ ws H locs cells slots hnl hL (gSr.mk (gVr.mkI (ok)) hS) hW hP hD hSf hc1 hc2)
theorem s_ldc2 (hx : p.tables.exec = Jvm.exec) (hb : c.code = cc) {own : String} {k : Nat} {n : Int} (hown : s.vm.findClass own = some m.cls) (hw : (Jvm.Cond.constantLong own k (Int64.ofInt n)).before args s = true) (hdg : decode cc pc = .ok (.ldc2_w k, 3)) (h0 : ∀ pc L S sh μ mc ms, P0 pc L S sh μ mc ms → gSP p l e R s m args below meth c Qf D cl cA a0 A b MC MS pc L S sh μ mc ms) (hk : P0 (pc + 3) L (gL n :: S) sh μ mc ms) : gSP p l e R s m args below meth c Qf D cl cA a0 A b MC MS pc L S sh μ mc ms := by
  intro ad ls st ws H locs cells slots hnl hL hS hW hP hD hSf hc1 hc2
  exact lv_ldc2 hx hb hown hw hdg (h0 _ _ _ _ _ _ _ hk ad ls _ ws H locs cells slots hnl hL (gSr.mk gVr.mkL hS) hW hP hD hSf hc1 hc2)
theorem s_null (hx : p.tables.exec = Jvm.exec) (hb : c.code = cc) (hdg : decode cc pc = .ok (.aconst_null, 1)) (h0 : ∀ pc L S sh μ mc ms, P0 pc L S sh μ mc ms → gSP p l e R s m args below meth c Qf D cl cA a0 A b MC MS pc L S sh μ mc ms) (hk : P0 (pc + 1) L (gN 0 :: S) sh μ mc ms) : gSP p l e R s m args below meth c Qf D cl cA a0 A b MC MS pc L S sh μ mc ms := by
  intro ad ls st ws H locs cells slots hnl hL hS hW hP hD hSf hc1 hc2
  exact lv_null hx hb hdg (h0 _ _ _ _ _ _ _ hk ad ls _ ws H locs cells slots hnl hL (gSr.mk gVr.mkN hS) hW hP hD hSf hc1 hc2)
theorem s_dup (hx : p.tables.exec = Jvm.exec) (hb : c.code = cc) (hdg : decode cc pc = .ok (.dup, 1)) (h0 : ∀ pc L S sh μ mc ms, P0 pc L S sh μ mc ms → gSP p l e R s m args below meth c Qf D cl cA a0 A b MC MS pc L S sh μ mc ms) {v : GV} (hs : gIs (gC1 v) (P0 (pc + 1) L (v :: v :: S) sh μ mc ms)) : gSP p l e R s m args below meth c Qf D cl cA a0 A b MC MS pc L (v :: S) sh μ mc ms := by
  intro ad ls st ws H locs cells slots hnl hL hS hW hP hD hSf hc1 hc2
  obtain ⟨ht, hk⟩ := gIs_t hs
  obtain ⟨w, st, rfl, hr, hS1⟩ := hS.c1
  exact lv_dup hx hb hdg (hr.cat ht) (h0 _ _ _ _ _ _ _ hk ad ls _ ws H locs cells slots hnl hL ⟨hr, hr, hS1⟩ hW hP hD hSf hc1 hc2)
theorem s_dup2 (hx : p.tables.exec = Jvm.exec) (hb : c.code = cc) (hdg : decode cc pc = .ok (.dup2, 1)) (h0 : ∀ pc L S sh μ mc ms, P0 pc L S sh μ mc ms → gSP p l e R s m args below meth c Qf D cl cA a0 A b MC MS pc L S sh μ mc ms) {v u : GV} (hs : gIs (gC1 v && gC1 u) (P0 (pc + 1) L (v :: u :: v :: u :: S) sh μ mc ms)) : gSP p l e R s m args below meth c Qf D cl cA a0 A b MC MS pc L (v :: u :: S) sh μ mc ms := by
  intro ad ls st ws H locs cells slots hnl hL hS hW hP hD hSf hc1 hc2
  obtain ⟨ht, hk⟩ := gIs_t hs
  rw [Bool.and_eq_true] at ht
  obtain ⟨w, st, rfl, hr, hS1⟩ := hS.c1
  obtain ⟨w2, st, rfl, hr2, hS2⟩ := hS1.c1
  exact lv_dup2_11 hx hb hdg (hr.cat ht.1) (hr2.cat ht.2) (h0 _ _ _ _ _ _ _ hk ad ls _ ws H locs cells slots hnl hL ⟨hr, hr2, hr, hr2, hS2⟩ hW hP hD hSf hc1 hc2)
theorem s_pop (hx : p.tables.exec = Jvm.exec) (hb : c.code = cc) (hdg : decode cc pc = .ok (.pop, 1)) (h0 : ∀ pc L S sh μ mc ms, P0 pc L S sh μ mc ms → gSP p l e R s m args below meth c Qf D cl cA a0 A b MC MS pc L S sh μ mc ms) {v : GV} (hs : gIs (gC1 v) (P0 (pc + 1) L S sh μ mc ms)) : gSP p l e R s m args below meth c Qf D cl cA a0 A b MC MS pc L (v :: S) sh μ mc ms := by
  intro ad ls st ws H locs cells slots hnl hL hS hW hP hD hSf hc1 hc2
  obtain ⟨ht, hk⟩ := gIs_t hs
  obtain ⟨w, st, rfl, hr, hS1⟩ := hS.c1
  exact lv_pop hx hb hdg (hr.cat ht) (h0 _ _ _ _ _ _ _ hk ad ls _ ws H locs cells slots hnl hL hS1 hW hP hD hSf hc1 hc2)
theorem s_iadd (hx : p.tables.exec = Jvm.exec) (hb : c.code = cc) (hdg : decode cc pc = .ok (.iadd, 1)) (h0 : ∀ pc L S sh μ mc ms, P0 pc L S sh μ mc ms → gSP p l e R s m args below meth c Qf D cl cA a0 A b MC MS pc L S sh μ mc ms) (hs : g2 S fun a b S' => gOk (a + b) ∧ P0 (pc + 1) L (gI (a + b) :: S') sh μ mc ms) : gSP p l e R s m args below meth c Qf D cl cA a0 A b MC MS pc L S sh μ mc ms := by
  intro ad ls st ws H locs cells slots hnl hL hS hW hP hD hSf hc1 hc2
  obtain ⟨a, d, S', rfl, ok, hk⟩ := g2_i hs
  obtain ⟨st, rfl, ok1, hS1⟩ := hS.i1
  obtain ⟨st, rfl, ok2, hS2⟩ := hS1.i1
  have q := (h0 _ _ _ _ _ _ _ hk ad ls _ ws H locs cells slots hnl hL (gSr.mk (gVr.mkI (ok)) hS2) hW hP hD hSf hc1 hc2)
  rw [Int32.ofInt_add] at q
  exact lv_iadd hx hb hdg q
theorem s_isub (hx : p.tables.exec = Jvm.exec) (hb : c.code = cc) (hdg : decode cc pc = .ok (.isub, 1)) (h0 : ∀ pc L S sh μ mc ms, P0 pc L S sh μ mc ms → gSP p l e R s m args below meth c Qf D cl cA a0 A b MC MS pc L S sh μ mc ms) (hs : g2 S fun a b S' => gOk (a - b) ∧ P0 (pc + 1) L (gI (a - b) :: S') sh μ mc ms) : gSP p l e R s m args below meth c Qf D cl cA a0 A b MC MS pc L S sh μ mc ms := by
  intro ad ls st ws H locs cells slots hnl hL hS hW hP hD hSf hc1 hc2
  obtain ⟨a, d, S', rfl, ok, hk⟩ := g2_i hs
  obtain ⟨st, rfl, ok1, hS1⟩ := hS.i1
  obtain ⟨st, rfl, ok2, hS2⟩ := hS1.i1
  have q := (h0 _ _ _ _ _ _ _ hk ad ls _ ws H locs cells slots hnl hL (gSr.mk (gVr.mkI (ok)) hS2) hW hP hD hSf hc1 hc2)
  rw [Int32.ofInt_sub] at q
  exact lv_isub hx hb hdg q
theorem s_imul (hx : p.tables.exec = Jvm.exec) (hb : c.code = cc) (hdg : decode cc pc = .ok (.imul, 1)) (h0 : ∀ pc L S sh μ mc ms, P0 pc L S sh μ mc ms → gSP p l e R s m args below meth c Qf D cl cA a0 A b MC MS pc L S sh μ mc ms) (hs : g2 S fun a b S' => gOk (a * b) ∧ P0 (pc + 1) L (gI (a * b) :: S') sh μ mc ms) : gSP p l e R s m args below meth c Qf D cl cA a0 A b MC MS pc L S sh μ mc ms := by
  intro ad ls st ws H locs cells slots hnl hL hS hW hP hD hSf hc1 hc2
  obtain ⟨a, d, S', rfl, ok, hk⟩ := g2_i hs
  obtain ⟨st, rfl, ok1, hS1⟩ := hS.i1
  obtain ⟨st, rfl, ok2, hS2⟩ := hS1.i1
  have q := (h0 _ _ _ _ _ _ _ hk ad ls _ ws H locs cells slots hnl hL (gSr.mk (gVr.mkI (ok)) hS2) hW hP hD hSf hc1 hc2)
  rw [Int32.ofInt_mul] at q
  exact lv_imul hx hb hdg q
theorem s_iand (hx : p.tables.exec = Jvm.exec) (hb : c.code = cc) (hdg : decode cc pc = .ok (.iand, 1)) (h0 : ∀ pc L S sh μ mc ms, P0 pc L S sh μ mc ms → gSP p l e R s m args below meth c Qf D cl cA a0 A b MC MS pc L S sh μ mc ms) (hs : g2 S fun a b S' => P0 (pc + 1) L (gI (gAnd a b) :: S') sh μ mc ms) : gSP p l e R s m args below meth c Qf D cl cA a0 A b MC MS pc L S sh μ mc ms := by
  intro ad ls st ws H locs cells slots hnl hL hS hW hP hD hSf hc1 hc2
  obtain ⟨a, d, S', rfl, hk⟩ := g2_i hs
  obtain ⟨st, rfl, ok1, hS1⟩ := hS.i1
  obtain ⟨st, rfl, ok2, hS2⟩ := hS1.i1
  have q := (h0 _ _ _ _ _ _ _ hk ad ls _ ws H locs cells slots hnl hL (gSr.mk (gVr.mkI (g_rng _)) hS2) hW hP hD hSf hc1 hc2)
  rw [gAnd, Int32.ofInt_toInt] at q
  exact lv_iand hx hb hdg q
theorem s_ior (hx : p.tables.exec = Jvm.exec) (hb : c.code = cc) (hdg : decode cc pc = .ok (.ior, 1)) (h0 : ∀ pc L S sh μ mc ms, P0 pc L S sh μ mc ms → gSP p l e R s m args below meth c Qf D cl cA a0 A b MC MS pc L S sh μ mc ms) (hs : g2 S fun a b S' => P0 (pc + 1) L (gI (gOr a b) :: S') sh μ mc ms) : gSP p l e R s m args below meth c Qf D cl cA a0 A b MC MS pc L S sh μ mc ms := by
  intro ad ls st ws H locs cells slots hnl hL hS hW hP hD hSf hc1 hc2
  obtain ⟨a, d, S', rfl, hk⟩ := g2_i hs
  obtain ⟨st, rfl, ok1, hS1⟩ := hS.i1
  obtain ⟨st, rfl, ok2, hS2⟩ := hS1.i1
  have q := (h0 _ _ _ _ _ _ _ hk ad ls _ ws H locs cells slots hnl hL (gSr.mk (gVr.mkI (g_rng _)) hS2) hW hP hD hSf hc1 hc2)
  rw [gOr, Int32.ofInt_toInt] at q
  exact lv_ior hx hb hdg q
theorem s_ishl (hx : p.tables.exec = Jvm.exec) (hb : c.code = cc) (hdg : decode cc pc = .ok (.ishl, 1)) (h0 : ∀ pc L S sh μ mc ms, P0 pc L S sh μ mc ms → gSP p l e R s m args below meth c Qf D cl cA a0 A b MC MS pc L S sh μ mc ms) (hs : g2 S fun a b S' => P0 (pc + 1) L (gI (gShl a b) :: S') sh μ mc ms) : gSP p l e R s m args below meth c Qf D cl cA a0 A b MC MS pc L S sh μ mc ms := by
  intro ad ls st ws H locs cells slots hnl hL hS hW hP hD hSf hc1 hc2
  obtain ⟨a, d, S', rfl, hk⟩ := g2_i hs
  obtain ⟨st, rfl, ok1, hS1⟩ := hS.i1
  obtain ⟨st, rfl, ok2, hS2⟩ := hS1.i1
  have q := (h0 _ _ _ _ _ _ _ hk ad ls _ ws H locs cells slots hnl hL (gSr.mk (gVr.mkI (g_rng _)) hS2) hW hP hD hSf hc1 hc2)
  rw [gShl, Int32.ofInt_toInt] at q
  exact lv_ishl hx hb hdg q
theorem s_ishr (hx : p.tables.exec = Jvm.exec) (hb : c.code = cc) (hdg : decode cc pc = .ok (.ishr, 1)) (h0 : ∀ pc L S sh μ mc ms, P0 pc L S sh μ mc ms → gSP p l e R s m args below meth c Qf D cl cA a0 A b MC MS pc L S sh μ mc ms) (hs : g2 S fun a b S' => P0 (pc + 1) L (gI (gShr a b) :: S') sh μ mc ms) : gSP p l e R s m args below meth c Qf D cl cA a0 A b MC MS pc L S sh μ mc ms := by
  intro ad ls st ws H locs cells slots hnl hL hS hW hP hD hSf hc1 hc2
  obtain ⟨a, d, S', rfl, hk⟩ := g2_i hs
  obtain ⟨st, rfl, ok1, hS1⟩ := hS.i1
  obtain ⟨st, rfl, ok2, hS2⟩ := hS1.i1
  have q := (h0 _ _ _ _ _ _ _ hk ad ls _ ws H locs cells slots hnl hL (gSr.mk (gVr.mkI (g_rng _)) hS2) hW hP hD hSf hc1 hc2)
  rw [gShr, Int32.ofInt_toInt] at q
  exact lv_ishr hx hb hdg q
theorem s_idiv (hx : p.tables.exec = Jvm.exec) (hb : c.code = cc) (hdg : decode cc pc = .ok (.idiv, 1)) (h0 : ∀ pc L S sh μ mc ms, P0 pc L S sh μ mc ms → gSP p l e R s m args below meth c Qf D cl cA a0 A b MC MS pc L S sh μ mc ms) (hs : g2 S fun a b S' => b ≠ 0 ∧ gOk b ∧ P0 (pc + 1) L (gI (gDiv a b) :: S') sh μ mc ms) : gSP p l e R s m args below meth c Qf D cl cA a0 A b MC MS pc L S sh μ mc ms := by
  intro ad ls st ws H locs cells slots hnl hL hS hW hP hD hSf hc1 hc2
  obtain ⟨a, d, S', rfl, hz, -, hk⟩ := g2_i hs
  obtain ⟨st, rfl, ok1, hS1⟩ := hS.i1
  obtain ⟨st, rfl, ok2, hS2⟩ := hS1.i1
  have q := (h0 _ _ _ _ _ _ _ hk ad ls _ ws H locs cells slots hnl hL (gSr.mk (gVr.mkI (g_rng _)) hS2) hW hP hD hSf hc1 hc2)
  rw [gDiv, Int32.ofInt_toInt] at q
  exact lv_idiv hx hb hdg (fun z => hz (by rw [← g_toInt ok1, z]; rfl)) q
theorem s_irem (hx : p.tables.exec = Jvm.exec) (hb : c.code = cc) (hdg : decode cc pc = .ok (.irem, 1)) (h0 : ∀ pc L S sh μ mc ms, P0 pc L S sh μ mc ms → gSP p l e R s m args below meth c Qf D cl cA a0 A b MC MS pc L S sh μ mc ms) (hs : g2 S fun a b S' => b ≠ 0 ∧ gOk b ∧ P0 (pc + 1) L (gI (gRem a b) :: S') sh μ mc ms) : gSP p l e R s m args below meth c Qf D cl cA a0 A b MC MS pc L S sh μ mc ms := by
  intro ad ls st ws H locs cells slots hnl hL hS hW hP hD hSf hc1 hc2
  obtain ⟨a, d, S', rfl, hz, -, hk⟩ := g2_i hs
  obtain ⟨st, rfl, ok1, hS1⟩ := hS.i1
  obtain ⟨st, rfl, ok2, hS2⟩ := hS1.i1
  have q := (h0 _ _ _ _ _ _ _ hk ad ls _ ws H locs cells slots hnl hL (gSr.mk (gVr.mkI (g_rng _)) hS2) hW hP hD hSf hc1 hc2)
  rw [gRem, Int32.ofInt_toInt] at q
  exact lv_irem hx hb hdg (fun z => hz (by rw [← g_toInt ok1, z]; rfl)) q
theorem s_ineg (hx : p.tables.exec = Jvm.exec) (hb : c.code = cc) (hdg : decode cc pc = .ok (.ineg, 1)) (h0 : ∀ pc L S sh μ mc ms, P0 pc L S sh μ mc ms → gSP p l e R s m args below meth c Qf D cl cA a0 A b MC MS pc L S sh μ mc ms) (hs : g1 S fun a S' => gOk (-a) ∧ P0 (pc + 1) L (gI (-a) :: S') sh μ mc ms) : gSP p l e R s m args below meth c Qf D cl cA a0 A b MC MS pc L S sh μ mc ms := by
  intro ad ls st ws H locs cells slots hnl hL hS hW hP hD hSf hc1 hc2
  obtain ⟨a, S', rfl, ok, hk⟩ := g1_i hs
  obtain ⟨st, rfl, ok1, hS1⟩ := hS.i1
  have q := (h0 _ _ _ _ _ _ _ hk ad ls _ ws H locs cells slots hnl hL (gSr.mk (gVr.mkI (ok)) hS1) hW hP hD hSf hc1 hc2)
  rw [Int32.ofInt_neg] at q
  exact lv_ineg hx hb hdg q
theorem s_i2l (hx : p.tables.exec = Jvm.exec) (hb : c.code = cc) (hdg : decode cc pc = .ok (.i2l, 1)) (h0 : ∀ pc L S sh μ mc ms, P0 pc L S sh μ mc ms → gSP p l e R s m args below meth c Qf D cl cA a0 A b MC MS pc L S sh μ mc ms) (hs : g1 S fun a S' => P0 (pc + 1) L (gL a :: S') sh μ mc ms) : gSP p l e R s m args below meth c Qf D cl cA a0 A b MC MS pc L S sh μ mc ms := by
  intro ad ls st ws H locs cells slots hnl hL hS hW hP hD hSf hc1 hc2
  obtain ⟨a, S', rfl, hk⟩ := g1_i hs
  obtain ⟨st, rfl, ok1, hS1⟩ := hS.i1
  exact lv_i2l hx hb hdg (Int32.toInt64_ofInt (by have := ok1.1; rw [show Int32.minValue.toInt = -2147483648 by decide]; omega) (by have := ok1.2; rw [show Int32.maxValue.toInt = 2147483647 by decide]; omega)) (h0 _ _ _ _ _ _ _ hk ad ls _ ws H locs cells slots hnl hL (gSr.mk gVr.mkL hS1) hW hP hD hSf hc1 hc2)
theorem s_i2c (hx : p.tables.exec = Jvm.exec) (hb : c.code = cc) (hdg : decode cc pc = .ok (.i2c, 1)) (h0 : ∀ pc L S sh μ mc ms, P0 pc L S sh μ mc ms → gSP p l e R s m args below meth c Qf D cl cA a0 A b MC MS pc L S sh μ mc ms) (hs : g1 S fun a S' => (0 ≤ a ∧ a < 65536) ∧ P0 (pc + 1) L (gI a :: S') sh μ mc ms) : gSP p l e R s m args below meth c Qf D cl cA a0 A b MC MS pc L S sh μ mc ms := by
  intro ad ls st ws H locs cells slots hnl hL hS hW hP hD hSf hc1 hc2
  obtain ⟨a, S', rfl, hr, hk⟩ := g1_i hs
  obtain ⟨st, rfl, ok1, hS1⟩ := hS.i1
  refine lv_i2c (v := Int32.ofInt a) hx hb hdg ?_ (h0 _ _ _ _ _ _ _ hk ad ls _ ws H locs cells slots hnl hL (gSr.mk (gVr.mkI (ok1)) hS1) hW hP hD hSf hc1 hc2)
  obtain ⟨n, rfl⟩ := Int.eq_ofNat_of_zero_le hr.1
  rw [Int32.ofInt_eq_ofNat]
  have hq := pk_char (nI n)
  rw [pk_tn (by omega), Nat.mod_eq_of_lt (by omega)] at hq
  exact hq
theorem s_ladd (hx : p.tables.exec = Jvm.exec) (hb : c.code = cc) (hdg : decode cc pc = .ok (.ladd, 1)) (h0 : ∀ pc L S sh μ mc ms, P0 pc L S sh μ mc ms → gSP p l e R s m args below meth c Qf D cl cA a0 A b MC MS pc L S sh μ mc ms) (hs : gLl S fun a b S' => P0 (pc + 1) L (gL (a + b) :: S') sh μ mc ms) : gSP p l e R s m args below meth c Qf D cl cA a0 A b MC MS pc L S sh μ mc ms := by
  intro ad ls st ws H locs cells slots hnl hL hS hW hP hD hSf hc1 hc2
  obtain ⟨a, d, S', rfl, hk⟩ := gLl_i hs
  obtain ⟨st, rfl, hS1⟩ := hS.l1
  obtain ⟨st, rfl, hS2⟩ := hS1.l1
  have q := (h0 _ _ _ _ _ _ _ hk ad ls _ ws H locs cells slots hnl hL (gSr.mk gVr.mkL hS2) hW hP hD hSf hc1 hc2)
  rw [Int64.ofInt_add] at q
  exact lv_ladd hx hb hdg q
theorem s_lmul (hx : p.tables.exec = Jvm.exec) (hb : c.code = cc) (hdg : decode cc pc = .ok (.lmul, 1)) (h0 : ∀ pc L S sh μ mc ms, P0 pc L S sh μ mc ms → gSP p l e R s m args below meth c Qf D cl cA a0 A b MC MS pc L S sh μ mc ms) (hs : gLl S fun a b S' => P0 (pc + 1) L (gL (a * b) :: S') sh μ mc ms) : gSP p l e R s m args below meth c Qf D cl cA a0 A b MC MS pc L S sh μ mc ms := by
  intro ad ls st ws H locs cells slots hnl hL hS hW hP hD hSf hc1 hc2
  obtain ⟨a, d, S', rfl, hk⟩ := gLl_i hs
  obtain ⟨st, rfl, hS1⟩ := hS.l1
  obtain ⟨st, rfl, hS2⟩ := hS1.l1
  have q := (h0 _ _ _ _ _ _ _ hk ad ls _ ws H locs cells slots hnl hL (gSr.mk gVr.mkL hS2) hW hP hD hSf hc1 hc2)
  rw [Int64.ofInt_mul] at q
  exact lv_lmul hx hb hdg q
theorem s_lcmp (hx : p.tables.exec = Jvm.exec) (hb : c.code = cc) (hdg : decode cc pc = .ok (.lcmp, 1)) (h0 : ∀ pc L S sh μ mc ms, P0 pc L S sh μ mc ms → gSP p l e R s m args below meth c Qf D cl cA a0 A b MC MS pc L S sh μ mc ms) (hs : gLl S fun a b S' => a = b ∧ P0 (pc + 1) L (gI 0 :: S') sh μ mc ms) : gSP p l e R s m args below meth c Qf D cl cA a0 A b MC MS pc L S sh μ mc ms := by
  intro ad ls st ws H locs cells slots hnl hL hS hW hP hD hSf hc1 hc2
  obtain ⟨a, d, S', rfl, rfl, hk⟩ := gLl_i hs
  obtain ⟨st, rfl, hS1⟩ := hS.l1
  obtain ⟨st, rfl, hS2⟩ := hS1.l1
  have q := (h0 _ _ _ _ _ _ _ hk ad ls _ ws H locs cells slots hnl hL (gSr.mk (gVr.mkI (by decide)) hS2) hW hP hD hSf hc1 hc2)
  refine W.lcmp hx hb hdg ?_
  rw [show lg_cmp (Int64.ofInt a) (Int64.ofInt a) = Int32.ofInt 0 by simp [lg_cmp]]
  exact q
theorem gIf_2 {k : ClassFile.Cond} {a d : Int} (h1 : gOk a) (h2 : gOk d) : gIf k a d ↔ (match k with
    | .eq => Int32.ofInt a = Int32.ofInt d
    | .ne => ¬ Int32.ofInt a = Int32.ofInt d
    | .lt => Int32.ofInt a < Int32.ofInt d
    | .ge => Int32.ofInt d ≤ Int32.ofInt a
    | .gt => Int32.ofInt d < Int32.ofInt a
    | .le => Int32.ofInt a ≤ Int32.ofInt d) := by
  cases k
  · exact (g_eq h1 h2).symm
  · exact (not_congr (g_eq h1 h2)).symm
  · exact (g_lt h1 h2).symm
  · exact (g_le h2 h1).symm
  · exact (g_lt h2 h1).symm
  · exact (g_le h1 h2).symm
theorem s_icmp (hx : p.tables.exec = Jvm.exec) (hb : c.code = cc) {k : ClassFile.Cond} {off : Int} {x : Nat} (hdg : decode cc pc = .ok (.if_icmp k off, 3)) (ht : (pc : Int) + off = (x : Int)) (h0 : ∀ pc L S sh μ mc ms, P0 pc L S sh μ mc ms → gSP p l e R s m args below meth c Qf D cl cA a0 A b MC MS pc L S sh μ mc ms) (hs : g2 S fun a b S' => gBr (gIf k a b) (P0 x L S' sh μ mc ms) (P0 (pc + 3) L S' sh μ mc ms)) : gSP p l e R s m args below meth c Qf D cl cA a0 A b MC MS pc L S sh μ mc ms := by
  intro ad ls st ws H locs cells slots hnl hL hS hW hP hD hSf hc1 hc2
  obtain ⟨a, d, S', rfl, hk⟩ := g2_i hs
  obtain ⟨st, rfl, ok2, hS1⟩ := hS.i1
  obtain ⟨st, rfl, ok1, hS2⟩ := hS1.i1
  have hi := gIf_2 (k := k) ok1 ok2
  cases k
  · exact lv_icmp_eq hx hb hdg ht (fun q => h0 _ _ _ _ _ _ _ (hk.1 (hi.mpr q)) ad ls _ ws H locs cells slots hnl hL hS2 hW hP hD hSf hc1 hc2) (fun q => h0 _ _ _ _ _ _ _ (hk.2 (fun z => q (hi.mp z))) ad ls _ ws H locs cells slots hnl hL hS2 hW hP hD hSf hc1 hc2)
  · exact lv_icmp_ne hx hb hdg ht (fun q => h0 _ _ _ _ _ _ _ (hk.1 (hi.mpr q)) ad ls _ ws H locs cells slots hnl hL hS2 hW hP hD hSf hc1 hc2) (fun q => h0 _ _ _ _ _ _ _ (hk.2 (fun z => hi.mp z q)) ad ls _ ws H locs cells slots hnl hL hS2 hW hP hD hSf hc1 hc2)
  · exact lv_icmp_lt hx hb hdg ht (fun q => h0 _ _ _ _ _ _ _ (hk.1 (hi.mpr q)) ad ls _ ws H locs cells slots hnl hL hS2 hW hP hD hSf hc1 hc2) (fun q => h0 _ _ _ _ _ _ _ (hk.2 (fun z => q (hi.mp z))) ad ls _ ws H locs cells slots hnl hL hS2 hW hP hD hSf hc1 hc2)
  · exact lv_icmp_ge hx hb hdg ht (fun q => h0 _ _ _ _ _ _ _ (hk.1 (hi.mpr q)) ad ls _ ws H locs cells slots hnl hL hS2 hW hP hD hSf hc1 hc2) (fun q => h0 _ _ _ _ _ _ _ (hk.2 (fun z => q (hi.mp z))) ad ls _ ws H locs cells slots hnl hL hS2 hW hP hD hSf hc1 hc2)
  · exact lv_icmp_gt hx hb hdg ht (fun q => h0 _ _ _ _ _ _ _ (hk.1 (hi.mpr q)) ad ls _ ws H locs cells slots hnl hL hS2 hW hP hD hSf hc1 hc2) (fun q => h0 _ _ _ _ _ _ _ (hk.2 (fun z => q (hi.mp z))) ad ls _ ws H locs cells slots hnl hL hS2 hW hP hD hSf hc1 hc2)
  · exact lv_icmp_le hx hb hdg ht (fun q => h0 _ _ _ _ _ _ _ (hk.1 (hi.mpr q)) ad ls _ ws H locs cells slots hnl hL hS2 hW hP hD hSf hc1 hc2) (fun q => h0 _ _ _ _ _ _ _ (hk.2 (fun z => q (hi.mp z))) ad ls _ ws H locs cells slots hnl hL hS2 hW hP hD hSf hc1 hc2)
theorem s_if (hx : p.tables.exec = Jvm.exec) (hb : c.code = cc) {k : ClassFile.Cond} {off : Int} {x : Nat} (hdg : decode cc pc = .ok (.ifCond k off, 3)) (ht : (pc : Int) + off = (x : Int)) (h0 : ∀ pc L S sh μ mc ms, P0 pc L S sh μ mc ms → gSP p l e R s m args below meth c Qf D cl cA a0 A b MC MS pc L S sh μ mc ms) (hs : g1 S fun a S' => gBr (gIf k a 0) (P0 x L S' sh μ mc ms) (P0 (pc + 3) L S' sh μ mc ms)) : gSP p l e R s m args below meth c Qf D cl cA a0 A b MC MS pc L S sh μ mc ms := by
  intro ad ls st ws H locs cells slots hnl hL hS hW hP hD hSf hc1 hc2
  obtain ⟨a, S', rfl, hk⟩ := g1_i hs
  obtain ⟨st, rfl, ok1, hS1⟩ := hS.i1
  have hi := gIf_2 (k := k) (d := 0) ok1 (by decide)
  cases k
  · exact lv_if_eq hx hb hdg ht (fun q => h0 _ _ _ _ _ _ _ (hk.1 (hi.mpr q)) ad ls _ ws H locs cells slots hnl hL hS1 hW hP hD hSf hc1 hc2) (fun q => h0 _ _ _ _ _ _ _ (hk.2 (fun z => q (hi.mp z))) ad ls _ ws H locs cells slots hnl hL hS1 hW hP hD hSf hc1 hc2)
  · exact lv_if_ne hx hb hdg ht (fun q => h0 _ _ _ _ _ _ _ (hk.1 (hi.mpr q)) ad ls _ ws H locs cells slots hnl hL hS1 hW hP hD hSf hc1 hc2) (fun q => h0 _ _ _ _ _ _ _ (hk.2 (fun z => hi.mp z q)) ad ls _ ws H locs cells slots hnl hL hS1 hW hP hD hSf hc1 hc2)
  · exact lv_if_lt hx hb hdg ht (fun q => h0 _ _ _ _ _ _ _ (hk.1 (hi.mpr q)) ad ls _ ws H locs cells slots hnl hL hS1 hW hP hD hSf hc1 hc2) (fun q => h0 _ _ _ _ _ _ _ (hk.2 (fun z => q (hi.mp z))) ad ls _ ws H locs cells slots hnl hL hS1 hW hP hD hSf hc1 hc2)
  · exact lv_if_ge hx hb hdg ht (fun q => h0 _ _ _ _ _ _ _ (hk.1 (hi.mpr q)) ad ls _ ws H locs cells slots hnl hL hS1 hW hP hD hSf hc1 hc2) (fun q => h0 _ _ _ _ _ _ _ (hk.2 (fun z => q (hi.mp z))) ad ls _ ws H locs cells slots hnl hL hS1 hW hP hD hSf hc1 hc2)
  · exact lv_if_gt hx hb hdg ht (fun q => h0 _ _ _ _ _ _ _ (hk.1 (hi.mpr q)) ad ls _ ws H locs cells slots hnl hL hS1 hW hP hD hSf hc1 hc2) (fun q => h0 _ _ _ _ _ _ _ (hk.2 (fun z => q (hi.mp z))) ad ls _ ws H locs cells slots hnl hL hS1 hW hP hD hSf hc1 hc2)
  · exact lv_if_le hx hb hdg ht (fun q => h0 _ _ _ _ _ _ _ (hk.1 (hi.mpr q)) ad ls _ ws H locs cells slots hnl hL hS1 hW hP hD hSf hc1 hc2) (fun q => h0 _ _ _ _ _ _ _ (hk.2 (fun z => q (hi.mp z))) ad ls _ ws H locs cells slots hnl hL hS1 hW hP hD hSf hc1 hc2)
theorem s_goto (hx : p.tables.exec = Jvm.exec) (hb : c.code = cc) {off : Int} {x : Nat} (hdg : decode cc pc = .ok (.goto off, 3)) (ht : (pc : Int) + off = (x : Int)) (h0 : ∀ pc L S sh μ mc ms, P0 pc L S sh μ mc ms → gSP p l e R s m args below meth c Qf D cl cA a0 A b MC MS pc L S sh μ mc ms) (hk : P0 x L S sh μ mc ms) : gSP p l e R s m args below meth c Qf D cl cA a0 A b MC MS pc L S sh μ mc ms := by
  intro ad ls st ws H locs cells slots hnl hL hS hW hP hD hSf hc1 hc2
  exact lv_goto hx hb hdg ht (h0 _ _ _ _ _ _ _ (hk) ad ls _ ws H locs cells slots hnl hL hS hW hP hD hSf hc1 hc2)
theorem s_ifnull_r (hx : p.tables.exec = Jvm.exec) (hb : c.code = cc) {off : Int} {x k : Nat} (hdg : decode cc pc = .ok (.ifnull off, 3)) (ht : (pc : Int) + off = (x : Int)) (h0 : ∀ pc L S sh μ mc ms, P0 pc L S sh μ mc ms → gSP p l e R s m args below meth c Qf D cl cA a0 A b MC MS pc L S sh μ mc ms) (hk : P0 (pc + 3) L S sh μ mc ms) : gSP p l e R s m args below meth c Qf D cl cA a0 A b MC MS pc L (gR k :: S) sh μ mc ms := by
  intro ad ls st ws H locs cells slots hnl hL hS hW hP hD hSf hc1 hc2
  obtain ⟨a, st, rfl, -, hS1⟩ := hS.r1
  exact lv_ifnull hx hb hdg (h0 _ _ _ _ _ _ _ (hk) ad ls _ ws H locs cells slots hnl hL hS1 hW hP hD hSf hc1 hc2)
theorem s_ifnull_n (hx : p.tables.exec = Jvm.exec) (hb : c.code = cc) {off : Int} {x : Nat} (hdg : decode cc pc = .ok (.ifnull off, 3)) (ht : (pc : Int) + off = (x : Int)) (h0 : ∀ pc L S sh μ mc ms, P0 pc L S sh μ mc ms → gSP p l e R s m args below meth c Qf D cl cA a0 A b MC MS pc L S sh μ mc ms) (hk : P0 x L S sh μ mc ms) : gSP p l e R s m args below meth c Qf D cl cA a0 A b MC MS pc L (gN 0 :: S) sh μ mc ms := by
  intro ad ls st ws H locs cells slots hnl hL hS hW hP hD hSf hc1 hc2
  obtain ⟨w, st, rfl, hw, hS1⟩ := hS.c1
  rw [show w = .null from hw]
  exact lv_ifnullN hx hb hdg ht (h0 _ _ _ _ _ _ _ (hk) ad ls _ ws H locs cells slots hnl hL hS1 hW hP hD hSf hc1 hc2)
theorem s_ifnonnull_r (hx : p.tables.exec = Jvm.exec) (hb : c.code = cc) {off : Int} {x k : Nat} (hdg : decode cc pc = .ok (.ifnonnull off, 3)) (ht : (pc : Int) + off = (x : Int)) (h0 : ∀ pc L S sh μ mc ms, P0 pc L S sh μ mc ms → gSP p l e R s m args below meth c Qf D cl cA a0 A b MC MS pc L S sh μ mc ms) (hk : P0 x L S sh μ mc ms) : gSP p l e R s m args below meth c Qf D cl cA a0 A b MC MS pc L (gR k :: S) sh μ mc ms := by
  intro ad ls st ws H locs cells slots hnl hL hS hW hP hD hSf hc1 hc2
  obtain ⟨a, st, rfl, -, hS1⟩ := hS.r1
  exact lv_ifnonnull hx hb hdg ht (h0 _ _ _ _ _ _ _ (hk) ad ls _ ws H locs cells slots hnl hL hS1 hW hP hD hSf hc1 hc2)
theorem s_ifnonnull_n (hx : p.tables.exec = Jvm.exec) (hb : c.code = cc) {off : Int} {x : Nat} (hdg : decode cc pc = .ok (.ifnonnull off, 3)) (ht : (pc : Int) + off = (x : Int)) (h0 : ∀ pc L S sh μ mc ms, P0 pc L S sh μ mc ms → gSP p l e R s m args below meth c Qf D cl cA a0 A b MC MS pc L S sh μ mc ms) (hk : P0 (pc + 3) L S sh μ mc ms) : gSP p l e R s m args below meth c Qf D cl cA a0 A b MC MS pc L (gN 0 :: S) sh μ mc ms := by
  intro ad ls st ws H locs cells slots hnl hL hS hW hP hD hSf hc1 hc2
  obtain ⟨w, st, rfl, hw, hS1⟩ := hS.c1
  rw [show w = .null from hw]
  exact lv_ifnonnullN hx hb hdg (h0 _ _ _ _ _ _ _ (hk) ad ls _ ws H locs cells slots hnl hL hS1 hW hP hD hSf hc1 hc2)
theorem gSw_i {a : Int} {k : Int → Prop} : ∀ {t : List Int} {j : Int} {i : Nat} {o : Int}, gSw a j t k → t[i]? = some o → a = j + i → k o
  | [], _, _, _, _, h, _ => by simp at h
  | o :: t, j, 0, o', h, ho, ha => by
    simp at ho; subst ho
    exact h.1 (by simpa using ha)
  | o :: t, j, i + 1, o', h, ho, ha => gSw_i (t := t) (j := j + 1) (i := i) h.2 (by simpa using ho) (by omega)
theorem s_table (hx : p.tables.exec = Jvm.exec) (hb : c.code = cc) {d lo hi : Int} {offs : Array Int} {x : Nat} (hdg : decode cc pc = .ok (.tableswitch d lo hi offs, x)) (h0 : ∀ pc L S sh μ mc ms, P0 pc L S sh μ mc ms → gSP p l e R s m args below meth c Qf D cl cA a0 A b MC MS pc L S sh μ mc ms) (hs : g1 S fun a S' => gIs (decide ((offs.size : Int) = hi - lo + 1) && decide (0 ≤ (pc : Int) + d)) ((a < lo ∨ hi < a → P0 ((pc : Int) + d).toNat L S' sh μ mc ms) ∧ gSw a lo offs.toList fun o => gIs (decide (0 ≤ (pc : Int) + o)) (P0 ((pc : Int) + o).toNat L S' sh μ mc ms))) : gSP p l e R s m args below meth c Qf D cl cA a0 A b MC MS pc L S sh μ mc ms := by
  intro ad ls st ws H locs cells slots hnl hL hS hW hP hD hSf hc1 hc2
  obtain ⟨a, S', rfl, hk⟩ := g1_i hs
  obtain ⟨st, rfl, ok1, hS1⟩ := hS.i1
  obtain ⟨hq, hk1, hk2⟩ := gIs_t hk
  rw [Bool.and_eq_true, decide_eq_true_eq, decide_eq_true_eq] at hq
  obtain ⟨hz, hd⟩ := hq
  by_cases hab : a < lo ∨ hi < a
  · exact lv_tableOut hx hb hdg (by rw [g_toInt ok1]; exact hab) (Int.toNat_of_nonneg hd).symm (h0 _ _ _ _ _ _ _ (hk1 hab) ad ls _ ws H locs cells slots hnl hL hS1 hW hP hD hSf hc1 hc2)
  · have h1 : ¬ a < lo := fun q => hab (Or.inl q)
    have h2 : ¬ hi < a := fun q => hab (Or.inr q)
    have hlt : (a - lo).toNat < offs.toList.length := by rw [Array.length_toList]; omega
    have ho : offs.toList[(a - lo).toNat]? = some offs.toList[(a - lo).toNat] := List.getElem?_eq_getElem hlt
    obtain ⟨h3, h4⟩ := gIs_t (gSw_i hk2 ho (by omega))
    rw [decide_eq_true_eq] at h3
    refine lv_tableIn (off := offs.toList[(a - lo).toNat]) hx hb hdg (by rw [g_toInt ok1]; exact h1) (by rw [g_toInt ok1]; exact h2) (by rw [g_toInt ok1, ← Array.getElem?_toList]; exact ho) (Int.toNat_of_nonneg h3).symm (h0 _ _ _ _ _ _ _ (h4) ad ls _ ws H locs cells slots hnl hL hS1 hW hP hD hSf hc1 hc2)
end GS
end
section
/-! ===== the rows that read and write cells ===== -/
def gTys (cA : Nat → ClassId) (E : String) : List (ClassId × FieldType) := [(cA 0, .int), (cA 1, .boolean), (cA 2, .char), (cA 3, .object E)]
/-- what the tables say of a field: its declarer, its place, its type -/
def gFd (cl : List vw_C) (F : Nat → List Nat) (Ts : List Cond) (x k : Nat) (C : String) (Tf : u_T) (N : Nat) (ty : Nat → FieldType) : Prop :=
  cl[x]? = some (C, Tf, N) ∧ x < 100 ∧ k < N ∧ (∀ w ∈ u_ws C Tf N, w ∈ Ts) ∧ (∀ j, j < N → parseFieldDescriptor (Tf j).2.2.1 = some (ty j)) ∧ (∀ a, a < N → ∀ b, b < N → a ≠ b → (Tf a).2.1 ≠ (Tf b).2.1) ∧ (Tf k).1 = C ∧ ∀ kd, (F x)[k]? = some kd → (match kd with
    | 0 => ty k = .int
    | 1 => ty k = .boolean
    | 2 => (∃ n, ty k = .object n) ∨ ∃ t, ty k = .array t
    | _ => False)
theorem gCe_o {cA : Nat → ClassId} {ad : List Nat} {b : Nat} {c : GC} {r : Int → Int} {e : va_E} (h : gCe cA ad b c r e) (hc : c.1 < 100) : c.2.2.length = c.2.1 ∧ ∃ fs : List Value, e = .inr (c.1, fs) ∧ fs.length = c.2.1 ∧ ∀ (k : Nat) (o : Option GV), c.2.2[k]? = some o → ∃ w, fs[k]? = some w ∧ (match o with
    | none => gVr ad b (gI (r k)) w
    | some v => gTr v = true ∧ gVr ad b v w) := by
  rcases h with h | h | h
  · exact h.2
  · omega
  · omega
theorem gCe_a {cA : Nat → ClassId} {ad : List Nat} {b : Nat} {c : GC} {r : Int → Int} {e : va_E} (h : gCe cA ad b c r e) {t : Nat} (hc : c.1 = 100 + t) (ht : t < 3) : ∃ f : Nat → Int32, e = .inl (cA t, c.2.1, .inl f) ∧ ∀ j : Nat, j < c.2.1 → f j = Int32.ofInt (r j) ∧ gOk (r j) := by
  rcases h with h | h | h
  · omega
  · obtain ⟨-, -, f, h1, h2⟩ := h
    refine ⟨f, ?_, h2⟩
    rw [h1, hc, Nat.add_sub_cancel_left]
  · omega
theorem gCe_q {cA : Nat → ClassId} {ad : List Nat} {b : Nat} {c : GC} {r : Int → Int} {e : va_E} (h : gCe cA ad b c r e) (hc : c.1 = 103) : c.2.2.length = c.2.1 ∧ ∃ f : Nat → Option Nat, e = .inl (cA 3, c.2.1, .inr (.inr (.inr (.inr f)))) ∧ ∀ (j : Nat) (o : Option GV), c.2.2[j]? = some o → (o = some (gN 0) ∧ f j = none) ∨ ∃ k a, o = some (gR k) ∧ ad[k]? = some a ∧ f j = some a := by
  rcases h with h | h | h
  · omega
  · omega
  · exact h.2
theorem gSh_set {sh : SH} {a : Nat} {c : GC} (h : sh[a]? = some c) : sh.set a c = sh := by
  apply List.ext_getElem?
  intro j
  by_cases hj : j = a
  · subst hj; rw [List.getElem?_set_self (List.getElem?_eq_some_iff.mp h).1, h]
  · rw [List.getElem?_set_ne (Ne.symm hj)]
theorem gW_s (μ : MU) (a : Nat) (i v : Int) : gW μ a i v a = fun j => if j = i then v else μ a j := if_pos rfl
theorem gW_o (μ : MU) {a k : Nat} (i v : Int) (h : k ≠ a) : gW μ a i v k = μ k := if_neg h
theorem gW_si (μ : MU) (a : Nat) (i v : Int) : gW μ a i v a i = v := by rw [gW_s]; exact if_pos rfl
theorem gW_sn (μ : MU) (a : Nat) (i v : Int) {j : Int} (h : j ≠ i) : gW μ a i v a j = μ a j := by rw [gW_s]; exact if_neg h
theorem gSel_i {i : Int} {k : GV → Prop} : ∀ {t : List (Option GV)} {j : Int} {n : Nat} {o : Option GV}, gSel i j t k → t[n]? = some o → i = j + n → ∃ v, o = some v ∧ k v
  | [], _, _, _, _, h, _ => by simp at h
  | q :: t, j, 0, o, h, ho, hi => by
    simp at ho; subst ho
    have h1 := h.1 (by simpa using hi)
    cases q with
    | none => exact h1.elim
    | some v => exact ⟨v, rfl, h1⟩
  | q :: t, j, n + 1, o, h, ho, hi => gSel_i (t := t) (j := j + 1) (n := n) h.2 (by simpa using ho) (by omega)
section GH
variable {p : Program} {l : Launch} {e : Env} {R : Room} {s : State} {m : MethodId} {args : Array Value} {below : List Frame} {meth : Method} {c : Code} {Qf : State → Prop}
variable {D : va_G} {cl : List vw_C} {cA : Nat → ClassId} {a0 : List Nat} {A : Nat → Prop} {b MC MS : Nat} {cc : ByteArray}
variable {pc : Nat} {L S : List GV} {sh : SH} {μ : MU} {mc ms : Nat}
variable {P0 : GP} {E own C : String} {Ts : List Cond} {F : Nat → List Nat}
theorem s_get (hx : p.tables.exec = Jvm.exec) (hb : c.code = cc) {idx x : Nat} {y : Int} {Tf : u_T} {N : Nat} {ty : Nat → FieldType} (hts : ∀ w ∈ Ts, w.before args s = true) (hown : s.vm.findClass own = some m.cls) (hK : va_K D cl (gTys cA E) s) (hfd : gFd cl F Ts x y.toNat C Tf N ty) (hy : 0 ≤ y) (hlink : (Cond.fieldLink own idx C (Tf y.toNat).2.1 (Tf y.toNat).2.2.1).before args s = true) (hdg : decode cc pc = .ok (.getfield idx, 3)) (h0 : ∀ pc L S sh μ mc ms, P0 pc L S sh μ mc ms → gSP p l e R s m args below meth c Qf D cl cA a0 A b MC MS pc L S sh μ mc ms) (hs : gGet P0 pc L S sh μ mc ms x y) : gSP p l e R s m args below meth c Qf D cl cA a0 A b MC MS pc L S sh μ mc ms := by
  intro ad ls st ws H locs cells slots hnl hL hS hW hP hD hSf hc1 hc2
  obtain ⟨hcl, hx1, hkN, hin, -, -, hde, -⟩ := hfd
  obtain ⟨a, S', rfl, hs⟩ := gRf_i hs
  obtain ⟨k, hk, hs⟩ := gCel_i hs
  obtain ⟨hkx, hs⟩ := gIs_t hs
  have hkx : k.1 = x := Nat.eq_of_beq_eq_true hkx
  obtain ⟨aa, st, rfl, haa, hS⟩ := hS.r1
  obtain ⟨ec, hec, hce⟩ := hW.at hk haa
  obtain ⟨-, fs, rfl, -, hfs⟩ := gCe_o hce (by omega)
  rw [hkx] at hec
  cases ho : k.2.2[y.toNat]? with
  | none => rw [ho] at hs; exact hs.elim
  | some o =>
    rw [ho] at hs
    obtain ⟨w, hw, hv⟩ := hfs y.toNat o ho
    refine va_get hx hb hts hin hown hK hP a hec hcl y.toNat hkN hlink (by rw [hde]; exact fun _ h => h) hw hdg ?_
    cases o with
    | none =>
      have hv : gVr ad b (gI (μ a (y.toNat : Int))) w := hv
      rw [Int.toNat_of_nonneg hy] at hv
      exact h0 _ _ _ _ _ _ _ hs ad ls _ ws H locs cells slots hnl hL (gSr.mk hv hS) hW hP hD hSf hc1 hc2
    | some v => exact h0 _ _ _ _ _ _ _ hs ad ls _ ws H locs cells slots hnl hL (gSr.mk hv.2 hS) hW hP hD hSf hc1 hc2
theorem s_put1 (hx : p.tables.exec = Jvm.exec) (hb : c.code = cc) {idx x : Nat} {k : Nat} {Tf : u_T} {N : Nat} {ty : Nat → FieldType} {H : Heap} {ws : va_W} {locs : List Loc} {cells slots : Nat} {ls : Array Slot} {st : List Value} {a aa : Nat} {v : Value} {fs : List Value} (hts : ∀ w ∈ Ts, w.before args s = true) (hown : s.vm.findClass own = some m.cls) (hK : va_K D cl (gTys cA E) s) (hfd : gFd cl F Ts x k C Tf N ty) (hlink : (Cond.fieldLink own idx C (Tf k).2.1 (Tf k).2.2.1).before args s = true) (hfin : (Tf k).2.2.2 = false ∨ (Tf k).2.2.2 = true ∧ meth.name = "<init>" ∧ C = own) (hdg : decode cc pc = .ok (.putfield idx, 3)) (hP : va_P D cl ws H) (hD : va_D A ws) (hSf : va_S A s.heap H locs) (hec : ws[a]? = some (aa, .inr (x, fs))) (hn : narrow (ty k) v = v) (hf : fits (ty k) v = true) (hl : k < fs.length)
    (kk : ∀ (H1 : Heap) (locs1 : List Loc), va_P D cl (ws.set a (aa, .inr (x, fs.set k v))) H1 → va_D A (ws.set a (aa, .inr (x, fs.set k v))) → va_S A s.heap H1 locs1 → W p l e R s m args below meth c H1 locs1 cells slots Qf (F0 m (pc + 3) ls st)) : W p l e R s m args below meth c H locs cells slots Qf (F0 m pc ls (v :: .ref aa :: st)) := by
  obtain ⟨hcl, hx1, hkN, hin, hty, hnm, hde, -⟩ := hfd
  rcases hfin with hfin | ⟨hfin, hin2, hCo⟩
  · exact va_put hx hb hts hin ty hty hnm hown hK hP hD hSf a hec hcl k hkN hlink (by rw [hde]; exact fun _ h => h) hfin (hty k hkN) hn hf hl hdg kk
  · exact va_putF hx hb hts hin ty hty hnm hown hK hP hD hSf a hec hcl k hkN hlink (by rw [hde]; exact fun _ h => h) hfin hin2 (by rw [hde, hCo]) (hty k hkN) hn hf hl hdg kk
theorem s_put (hx : p.tables.exec = Jvm.exec) (hb : c.code = cc) {idx x : Nat} {y : Int} {Tf : u_T} {N : Nat} {ty : Nat → FieldType} (hts : ∀ w ∈ Ts, w.before args s = true) (hown : s.vm.findClass own = some m.cls) (hK : va_K D cl (gTys cA E) s) (hfd : gFd cl F Ts x y.toNat C Tf N ty) (hy : 0 ≤ y) (hlink : (Cond.fieldLink own idx C (Tf y.toNat).2.1 (Tf y.toNat).2.2.1).before args s = true) (hfin : (Tf y.toNat).2.2.2 = false ∨ (Tf y.toNat).2.2.2 = true ∧ meth.name = "<init>" ∧ C = own) (hdg : decode cc pc = .ok (.putfield idx, 3)) (h0 : ∀ pc L S sh μ mc ms, P0 pc L S sh μ mc ms → gSP p l e R s m args below meth c Qf D cl cA a0 A b MC MS pc L S sh μ mc ms) (hs : gPut F P0 pc L S sh μ mc ms x y) : gSP p l e R s m args below meth c Qf D cl cA a0 A b MC MS pc L S sh μ mc ms := by
  intro ad ls st ws H locs cells slots hnl hL hS hW hP hD hSf hc1 hc2
  have hx1 : x < 100 := hfd.2.1
  unfold gPut at hs
  split at hs
  · rename_i n a S'
    obtain ⟨k, hk, hs⟩ := gCel_i hs
    obtain ⟨hkx, hs⟩ := gIs_t hs
    have hkx : k.1 = x := Nat.eq_of_beq_eq_true hkx
    obtain ⟨st, rfl, okn, hS⟩ := hS.i1
    obtain ⟨aa, st, rfl, haa, hS⟩ := hS.r1
    obtain ⟨ec, hec, hce⟩ := hW.at hk haa
    obtain ⟨hlen, fs, rfl, hfl, hfs⟩ := gCe_o hce (by omega)
    have key : ∀ kd, k.2.2[y.toNat]? = some none → (F x)[y.toNat]? = some kd → narrow (ty y.toNat) (.int (Int32.ofInt n)) = .int (Int32.ofInt n) → fits (ty y.toNat) (.int (Int32.ofInt n)) = true → P0 (pc + 3) L S' sh (gW μ a y n) mc ms → W p l e R s m args below meth c H locs cells slots Qf (F0 m pc ls (.int (Int32.ofInt n) :: .ref aa :: st)) := by
      intro kd h1 h2 h3 h4 h5
      have hkl : y.toNat < fs.length := by rw [hfl, ← hlen]; exact (List.getElem?_eq_some_iff.mp h1).1
      rw [hkx] at hec
      refine s_put1 hx hb hts hown hK hfd hlink hfin hdg hP hD hSf hec h3 h4 hkl fun H1 locs1 hP1 hD1 hS1 => ?_
      have hW1 := hW.set (μ' := gW μ a y n) (c' := k) (e' := .inr (x, fs.set y.toNat (.int (Int32.ofInt n)))) hk hec (by
        refine Or.inl ⟨by omega, hlen, _, by rw [hkx], by rw [List.length_set]; exact hfl, fun j o ho => ?_⟩
        by_cases hj : j = y.toNat
        · subst hj
          rw [h1] at ho
          cases ho
          refine ⟨_, List.getElem?_set_self hkl, ?_⟩
          show gVr ad b (gI (gW μ a y n a (y.toNat : Int))) _
          rw [Int.toNat_of_nonneg hy, gW_si]
          exact gVr.mkI okn
        · obtain ⟨w, hw, hv⟩ := hfs j o ho
          refine ⟨w, by rw [List.getElem?_set_ne (Ne.symm hj)]; exact hw, ?_⟩
          cases o with
          | none =>
            show gVr ad b (gI (gW μ a y n a (j : Int))) _
            rw [gW_sn _ _ _ _ (by omega)]
            exact hv
          | some v => exact hv) (fun j hj => gW_o μ y n hj)
      rw [gSh_set hk] at hW1
      exact h0 _ _ _ _ _ _ _ h5 ad ls _ _ H1 locs1 cells slots hnl hL hS hW1 hP1 hD1 hS1 hc1 hc2
    have hkd := hfd.2.2.2.2.2.2.2
    split at hs
    · rename_i h1 h2
      have ht := hkd 0 h2
      exact key 0 h1 h2 (by rw [show ty y.toNat = .int from ht]; rfl) (by rw [show ty y.toNat = .int from ht]; rfl) hs
    · rename_i h1 h2
      have ht := hkd 1 h2
      obtain ⟨hn, hs⟩ := hs
      rcases hn with rfl | rfl
      · exact key 1 h1 h2 (by rw [show ty y.toNat = .boolean from ht]; rfl) (by rw [show ty y.toNat = .boolean from ht]; rfl) hs
      · exact key 1 h1 h2 (by rw [show ty y.toNat = .boolean from ht]; rfl) (by rw [show ty y.toNat = .boolean from ht]; rfl) hs
    · exact hs.elim
  · rename_i r a S'
    obtain ⟨k, hk, hs⟩ := gCel_i hs
    obtain ⟨hkx, hs⟩ := gIs_t hs
    have hkx : k.1 = x := Nat.eq_of_beq_eq_true hkx
    obtain ⟨ra, st, rfl, hra, hS⟩ := hS.r1
    obtain ⟨aa, st, rfl, haa, hS⟩ := hS.r1
    obtain ⟨ec, hec, hce⟩ := hW.at hk haa
    obtain ⟨hlen, fs, rfl, hfl, hfs⟩ := gCe_o hce (by omega)
    have hkd := hfd.2.2.2.2.2.2.2
    split at hs
    · rename_i vo h1 h2
      have ht : (∃ n, ty y.toNat = .object n) ∨ ∃ t, ty y.toNat = .array t := hkd 2 h2
      rw [hkx] at hec
      have hkl : y.toNat < fs.length := by rw [hfl, ← hlen]; exact (List.getElem?_eq_some_iff.mp h1).1
      refine s_put1 hx hb hts hown hK hfd hlink hfin hdg hP hD hSf hec (by rcases ht with ⟨n, e1⟩ | ⟨n, e1⟩ <;> rw [e1] <;> rfl) (by rcases ht with ⟨n, e1⟩ | ⟨n, e1⟩ <;> rw [e1] <;> rfl) hkl fun H1 locs1 hP1 hD1 hS1 => ?_
      have hW1 := hW.set (μ' := μ) (c' := (k.1, k.2.1, k.2.2.set y.toNat (some (gR r)))) (e' := .inr (x, fs.set y.toNat (.ref ra))) hk hec (by
        refine Or.inl ⟨by show k.1 < 100; omega, by rw [List.length_set]; exact hlen, _, by rw [hkx], by rw [List.length_set]; exact hfl, fun j o ho => ?_⟩
        by_cases hj : j = y.toNat
        · subst hj
          rw [List.getElem?_set_self (by rw [hlen, ← hfl]; exact hkl)] at ho
          cases ho
          exact ⟨_, List.getElem?_set_self hkl, rfl, gVr.mkR hra⟩
        · rw [List.getElem?_set_ne (Ne.symm hj)] at ho
          obtain ⟨w, hw, hv⟩ := hfs j o ho
          exact ⟨w, by rw [List.getElem?_set_ne (Ne.symm hj)]; exact hw, hv⟩) (fun j hj => rfl)
      exact h0 _ _ _ _ _ _ _ hs ad ls _ _ H1 locs1 cells slots hnl hL hS hW1 hP1 hD1 hS1 hc1 hc2
    · exact hs.elim
  · exact hs.elim
theorem s_iaload (hx : p.tables.exec = Jvm.exec) (hb : c.code = cc) (hK : va_K D cl (gTys cA E) s) {u : Bool} {NN : Int} {XX : Int → Int} (hscr : u = true → ∃ (Ls : Nat) (xs : Nat → Int32), va_X b Ls xs s s.heap ∧ b < s.heap.size ∧ ¬ A b ∧ NN = Ls ∧ Ls < 2147483648 ∧ ∀ j : Nat, j < Ls → xs j = Int32.ofInt (XX j) ∧ gOk (XX j)) (hdg : decode cc pc = .ok (.iaload, 1)) (h0 : ∀ pc L S sh μ mc ms, P0 pc L S sh μ mc ms → gSP p l e R s m args below meth c Qf D cl cA a0 A b MC MS pc L S sh μ mc ms) (hs : gAld 100 NN XX u P0 pc L S sh μ mc ms) : gSP p l e R s m args below meth c Qf D cl cA a0 A b MC MS pc L S sh μ mc ms := by
  intro ad ls st ws H locs cells slots hnl hL hS hW hP hD hSf hc1 hc2
  unfold gAld at hs
  split at hs
  · rename_i i a S'
    obtain ⟨k, hk, hs⟩ := gCel_i hs
    obtain ⟨hkx, ⟨hi0, hi1⟩, hs⟩ := gIs_t hs
    have hkx : k.1 = 100 + 0 := Nat.eq_of_beq_eq_true hkx
    obtain ⟨st, rfl, oki, hS⟩ := hS.i1
    obtain ⟨aa, st, rfl, haa, hS⟩ := hS.r1
    obtain ⟨ec, hec, hce⟩ := hW.at hk haa
    obtain ⟨f, rfl, hf⟩ := gCe_a hce hkx (by decide)
    have hi2 : i.toNat < k.2.1 := by omega
    obtain ⟨hf1, hf2⟩ := hf i.toNat hi2
    rw [Int.toNat_of_nonneg hi0] at hf1 hf2
    refine va_iald hx hb hK hP a 0 hec rfl (g_in oki hi0 hi1) hdg ?_
    rw [g_cl oki, hf1]
    exact h0 _ _ _ _ _ _ _ hs ad ls _ ws H locs cells slots hnl hL (gSr.mk (gVr.mkI hf2) hS) hW hP hD hSf hc1 hc2
  · rename_i i S'
    obtain ⟨hu, ⟨hi0, hi1⟩, hs⟩ := gIs_t hs
    rw [Bool.and_eq_true] at hu
    obtain ⟨Ls, xs, hX, hbs, hbA, hN, hLs, hxs⟩ := hscr hu.1
    rw [hN] at hi1
    obtain ⟨st, rfl, oki, hS⟩ := hS.i1
    obtain ⟨w, st, rfl, hw, hS⟩ := hS.c1
    rw [show w = .ref b from hw]
    have hi2 : i.toNat < Ls := by omega
    obtain ⟨hf1, hf2⟩ := hxs i.toNat hi2
    rw [Int.toNat_of_nonneg hi0] at hf1 hf2
    refine va_sld hx hb hX hbs hbA hSf (g_in oki hi0 hi1) hdg ?_
    rw [g_cl oki, hf1]
    exact h0 _ _ _ _ _ _ _ hs ad ls _ ws H locs cells slots hnl hL (gSr.mk (gVr.mkI hf2) hS) hW hP hD hSf hc1 hc2
  · exact hs.elim
theorem s_iastore (hx : p.tables.exec = Jvm.exec) (hb : c.code = cc) (hK : va_K D cl (gTys cA E) s) (hdg : decode cc pc = .ok (.iastore, 1)) (h0 : ∀ pc L S sh μ mc ms, P0 pc L S sh μ mc ms → gSP p l e R s m args below meth c Qf D cl cA a0 A b MC MS pc L S sh μ mc ms) (hs : gAst 100 P0 pc L S sh μ mc ms) : gSP p l e R s m args below meth c Qf D cl cA a0 A b MC MS pc L S sh μ mc ms := by
  intro ad ls st ws H locs cells slots hnl hL hS hW hP hD hSf hc1 hc2
  unfold gAst at hs
  split at hs
  · rename_i v i a S'
    obtain ⟨k, hk, hs⟩ := gCel_i hs
    obtain ⟨hkx, ⟨hi0, hi1⟩, hs⟩ := gIs_t hs
    have hkx : k.1 = 100 + 0 := Nat.eq_of_beq_eq_true hkx
    obtain ⟨st, rfl, okv, hS⟩ := hS.i1
    obtain ⟨st, rfl, oki, hS⟩ := hS.i1
    obtain ⟨aa, st, rfl, haa, hS⟩ := hS.r1
    obtain ⟨ec, hec, hce⟩ := hW.at hk haa
    obtain ⟨f, rfl, hf⟩ := gCe_a hce hkx (by decide)
    have hv : Int32.ofInt v = Int32.ofInt v := rfl
    have hs : P0 (pc + 1) L S' sh (gW μ a i v) mc ms := hs
    refine va_iast hx hb hK hP hD hSf a 0 hec rfl (g_in oki hi0 hi1) hdg fun H1 locs1 hP1 hD1 hS1 => ?_
    have hW1 := hW.set (μ' := gW μ a i v) (c' := k) (e' := .inl (cA 0, k.2.1, .inl (upd f (Int32.ofInt i).toNatClampNeg (Int32.ofInt v)))) hk hec (by
      refine Or.inr (Or.inl ⟨by omega, by omega, _, by rw [hkx, Nat.add_sub_cancel_left], fun j hj => ?_⟩)
      rw [g_cl oki]
      by_cases hji : j = i.toNat
      · subst hji
        rw [pk_us, Int.toNat_of_nonneg hi0, gW_si]
        exact ⟨rfl, okv⟩
      · rw [pk_un hji, gW_sn _ _ _ _ (by omega)]
        exact hf j hj) (fun j hj => gW_o μ i v hj)
    rw [gSh_set hk] at hW1
    exact h0 _ _ _ _ _ _ _ hs ad ls _ _ H1 locs1 cells slots hnl hL hS hW1 hP1 hD1 hS1 hc1 hc2
  · exact hs.elim
theorem s_baload (hx : p.tables.exec = Jvm.exec) (hb : c.code = cc) (hK : va_K D cl (gTys cA E) s) {u : Bool} {NN : Int} {XX : Int → Int} (hscr : u = true → ∃ (Ls : Nat) (xs : Nat → Int32), va_X b Ls xs s s.heap ∧ b < s.heap.size ∧ ¬ A b ∧ NN = Ls ∧ Ls < 2147483648 ∧ ∀ j : Nat, j < Ls → xs j = Int32.ofInt (XX j) ∧ gOk (XX j)) (hdg : decode cc pc = .ok (.baload, 1)) (h0 : ∀ pc L S sh μ mc ms, P0 pc L S sh μ mc ms → gSP p l e R s m args below meth c Qf D cl cA a0 A b MC MS pc L S sh μ mc ms) (hs : gAld 101 NN XX u P0 pc L S sh μ mc ms) : gSP p l e R s m args below meth c Qf D cl cA a0 A b MC MS pc L S sh μ mc ms := by
  intro ad ls st ws H locs cells slots hnl hL hS hW hP hD hSf hc1 hc2
  unfold gAld at hs
  split at hs
  · rename_i i a S'
    obtain ⟨k, hk, hs⟩ := gCel_i hs
    obtain ⟨hkx, ⟨hi0, hi1⟩, hs⟩ := gIs_t hs
    have hkx : k.1 = 100 + 1 := Nat.eq_of_beq_eq_true hkx
    obtain ⟨st, rfl, oki, hS⟩ := hS.i1
    obtain ⟨aa, st, rfl, haa, hS⟩ := hS.r1
    obtain ⟨ec, hec, hce⟩ := hW.at hk haa
    obtain ⟨f, rfl, hf⟩ := gCe_a hce hkx (by decide)
    have hi2 : i.toNat < k.2.1 := by omega
    obtain ⟨hf1, hf2⟩ := hf i.toNat hi2
    rw [Int.toNat_of_nonneg hi0] at hf1 hf2
    refine va_zald hx hb hK hP a 1 hec rfl (g_in oki hi0 hi1) hdg ?_
    rw [g_cl oki, hf1]
    exact h0 _ _ _ _ _ _ _ hs ad ls _ ws H locs cells slots hnl hL (gSr.mk (gVr.mkI hf2) hS) hW hP hD hSf hc1 hc2
  · obtain ⟨hu, -⟩ := gIs_t hs
    rw [Bool.and_eq_true] at hu
    exact absurd hu.2 (by decide)
  · exact hs.elim
theorem s_bastore (hx : p.tables.exec = Jvm.exec) (hb : c.code = cc) (hK : va_K D cl (gTys cA E) s) (hdg : decode cc pc = .ok (.bastore, 1)) (h0 : ∀ pc L S sh μ mc ms, P0 pc L S sh μ mc ms → gSP p l e R s m args below meth c Qf D cl cA a0 A b MC MS pc L S sh μ mc ms) (hs : gAst 101 P0 pc L S sh μ mc ms) : gSP p l e R s m args below meth c Qf D cl cA a0 A b MC MS pc L S sh μ mc ms := by
  intro ad ls st ws H locs cells slots hnl hL hS hW hP hD hSf hc1 hc2
  unfold gAst at hs
  split at hs
  · rename_i v i a S'
    obtain ⟨k, hk, hs⟩ := gCel_i hs
    obtain ⟨hkx, ⟨hi0, hi1⟩, hs⟩ := gIs_t hs
    have hkx : k.1 = 100 + 1 := Nat.eq_of_beq_eq_true hkx
    obtain ⟨st, rfl, okv, hS⟩ := hS.i1
    obtain ⟨st, rfl, oki, hS⟩ := hS.i1
    obtain ⟨aa, st, rfl, haa, hS⟩ := hS.r1
    obtain ⟨ec, hec, hce⟩ := hW.at hk haa
    obtain ⟨f, rfl, hf⟩ := gCe_a hce hkx (by decide)
    have hv : vp_nar .boolean (Int32.ofInt v) = Int32.ofInt v := by
      rcases hs.1 with rfl | rfl <;> rfl
    have hs : P0 (pc + 1) L S' sh (gW μ a i v) mc ms := hs.2
    refine va_zast hx hb hK hP hD hSf a 1 hec rfl (g_in oki hi0 hi1) hdg fun H1 locs1 hP1 hD1 hS1 => ?_
    rw [hv] at hP1 hD1
    have hW1 := hW.set (μ' := gW μ a i v) (c' := k) (e' := .inl (cA 1, k.2.1, .inl (upd f (Int32.ofInt i).toNatClampNeg (Int32.ofInt v)))) hk hec (by
      refine Or.inr (Or.inl ⟨by omega, by omega, _, by rw [hkx, Nat.add_sub_cancel_left], fun j hj => ?_⟩)
      rw [g_cl oki]
      by_cases hji : j = i.toNat
      · subst hji
        rw [pk_us, Int.toNat_of_nonneg hi0, gW_si]
        exact ⟨rfl, okv⟩
      · rw [pk_un hji, gW_sn _ _ _ _ (by omega)]
        exact hf j hj) (fun j hj => gW_o μ i v hj)
    rw [gSh_set hk] at hW1
    exact h0 _ _ _ _ _ _ _ hs ad ls _ _ H1 locs1 cells slots hnl hL hS hW1 hP1 hD1 hS1 hc1 hc2
  · exact hs.elim
theorem s_caload (hx : p.tables.exec = Jvm.exec) (hb : c.code = cc) (hK : va_K D cl (gTys cA E) s) {u : Bool} {NN : Int} {XX : Int → Int} (hscr : u = true → ∃ (Ls : Nat) (xs : Nat → Int32), va_X b Ls xs s s.heap ∧ b < s.heap.size ∧ ¬ A b ∧ NN = Ls ∧ Ls < 2147483648 ∧ ∀ j : Nat, j < Ls → xs j = Int32.ofInt (XX j) ∧ gOk (XX j)) (hdg : decode cc pc = .ok (.caload, 1)) (h0 : ∀ pc L S sh μ mc ms, P0 pc L S sh μ mc ms → gSP p l e R s m args below meth c Qf D cl cA a0 A b MC MS pc L S sh μ mc ms) (hs : gAld 102 NN XX u P0 pc L S sh μ mc ms) : gSP p l e R s m args below meth c Qf D cl cA a0 A b MC MS pc L S sh μ mc ms := by
  intro ad ls st ws H locs cells slots hnl hL hS hW hP hD hSf hc1 hc2
  unfold gAld at hs
  split at hs
  · rename_i i a S'
    obtain ⟨k, hk, hs⟩ := gCel_i hs
    obtain ⟨hkx, ⟨hi0, hi1⟩, hs⟩ := gIs_t hs
    have hkx : k.1 = 100 + 2 := Nat.eq_of_beq_eq_true hkx
    obtain ⟨st, rfl, oki, hS⟩ := hS.i1
    obtain ⟨aa, st, rfl, haa, hS⟩ := hS.r1
    obtain ⟨ec, hec, hce⟩ := hW.at hk haa
    obtain ⟨f, rfl, hf⟩ := gCe_a hce hkx (by decide)
    have hi2 : i.toNat < k.2.1 := by omega
    obtain ⟨hf1, hf2⟩ := hf i.toNat hi2
    rw [Int.toNat_of_nonneg hi0] at hf1 hf2
    refine va_cald hx hb hK hP a 2 hec rfl (g_in oki hi0 hi1) hdg ?_
    rw [g_cl oki, hf1]
    exact h0 _ _ _ _ _ _ _ hs ad ls _ ws H locs cells slots hnl hL (gSr.mk (gVr.mkI hf2) hS) hW hP hD hSf hc1 hc2
  · obtain ⟨hu, -⟩ := gIs_t hs
    rw [Bool.and_eq_true] at hu
    exact absurd hu.2 (by decide)
  · exact hs.elim
theorem s_castore (hx : p.tables.exec = Jvm.exec) (hb : c.code = cc) (hK : va_K D cl (gTys cA E) s) (hdg : decode cc pc = .ok (.castore, 1)) (h0 : ∀ pc L S sh μ mc ms, P0 pc L S sh μ mc ms → gSP p l e R s m args below meth c Qf D cl cA a0 A b MC MS pc L S sh μ mc ms) (hs : gAst 102 P0 pc L S sh μ mc ms) : gSP p l e R s m args below meth c Qf D cl cA a0 A b MC MS pc L S sh μ mc ms := by
  intro ad ls st ws H locs cells slots hnl hL hS hW hP hD hSf hc1 hc2
  unfold gAst at hs
  split at hs
  · rename_i v i a S'
    obtain ⟨k, hk, hs⟩ := gCel_i hs
    obtain ⟨hkx, ⟨hi0, hi1⟩, hs⟩ := gIs_t hs
    have hkx : k.1 = 100 + 2 := Nat.eq_of_beq_eq_true hkx
    obtain ⟨st, rfl, okv, hS⟩ := hS.i1
    obtain ⟨st, rfl, oki, hS⟩ := hS.i1
    obtain ⟨aa, st, rfl, haa, hS⟩ := hS.r1
    obtain ⟨ec, hec, hce⟩ := hW.at hk haa
    obtain ⟨f, rfl, hf⟩ := gCe_a hce hkx (by decide)
    have hv : vp_nar .char (Int32.ofInt v) = Int32.ofInt v := by
      obtain ⟨n, rfl⟩ := Int.eq_ofNat_of_zero_le hs.1.1
      have hq := hs.1.2
      rw [Int32.ofInt_eq_ofNat]
      have h2 := (pk_charN (q := n) (by omega)).1
      show vp_nar .char (nI n) = nI n
      unfold vp_nar
      rw [h2]
    have hs : P0 (pc + 1) L S' sh (gW μ a i v) mc ms := hs.2
    refine va_cast hx hb hK hP hD hSf a 2 hec rfl (g_in oki hi0 hi1) hdg fun H1 locs1 hP1 hD1 hS1 => ?_
    rw [hv] at hP1 hD1
    have hW1 := hW.set (μ' := gW μ a i v) (c' := k) (e' := .inl (cA 2, k.2.1, .inl (upd f (Int32.ofInt i).toNatClampNeg (Int32.ofInt v)))) hk hec (by
      refine Or.inr (Or.inl ⟨by omega, by omega, _, by rw [hkx, Nat.add_sub_cancel_left], fun j hj => ?_⟩)
      rw [g_cl oki]
      by_cases hji : j = i.toNat
      · subst hji
        rw [pk_us, Int.toNat_of_nonneg hi0, gW_si]
        exact ⟨rfl, okv⟩
      · rw [pk_un hji, gW_sn _ _ _ _ (by omega)]
        exact hf j hj) (fun j hj => gW_o μ i v hj)
    rw [gSh_set hk] at hW1
    exact h0 _ _ _ _ _ _ _ hs ad ls _ _ H1 locs1 cells slots hnl hL hS hW1 hP1 hD1 hS1 hc1 hc2
  · exact hs.elim
theorem s_alen (hx : p.tables.exec = Jvm.exec) (hb : c.code = cc) (hK : va_K D cl (gTys cA E) s) {u : Bool} {NN : Int} {XX : Int → Int} (hscr : u = true → ∃ (Ls : Nat) (xs : Nat → Int32), va_X b Ls xs s s.heap ∧ b < s.heap.size ∧ ¬ A b ∧ NN = Ls ∧ Ls < 2147483648 ∧ ∀ j : Nat, j < Ls → xs j = Int32.ofInt (XX j) ∧ gOk (XX j)) (hdg : decode cc pc = .ok (.arraylength, 1)) (h0 : ∀ pc L S sh μ mc ms, P0 pc L S sh μ mc ms → gSP p l e R s m args below meth c Qf D cl cA a0 A b MC MS pc L S sh μ mc ms) (hs : match S with
    | .inr (.inl a) :: S' => gCel sh a fun c => gIs (Nat.ble 100 c.1 && Nat.ble c.1 102 && Nat.blt c.2.1 2147483648) (P0 (pc + 1) L (gI c.2.1 :: S') sh μ mc ms)
    | .inr (.inr (.inr 1)) :: S' => gIs u (P0 (pc + 1) L (gI NN :: S') sh μ mc ms)
    | _ => False) : gSP p l e R s m args below meth c Qf D cl cA a0 A b MC MS pc L S sh μ mc ms := by
  intro ad ls st ws H locs cells slots hnl hL hS hW hP hD hSf hc1 hc2
  split at hs
  · rename_i a S'
    obtain ⟨k, hk, hs⟩ := gCel_i hs
    obtain ⟨hkx, hs⟩ := gIs_t hs
    rw [Bool.and_eq_true, Bool.and_eq_true] at hkx
    obtain ⟨⟨h1, h2⟩, h3⟩ := hkx
    have h1 := Nat.le_of_ble_eq_true h1
    have h2 := Nat.le_of_ble_eq_true h2
    have h3 : k.2.1 < 2147483648 := Nat.le_of_ble_eq_true h3
    obtain ⟨aa, st, rfl, haa, hS⟩ := hS.r1
    obtain ⟨ec, hec, hce⟩ := hW.at hk haa
    obtain ⟨t, ht, hkt⟩ : ∃ t, t < 3 ∧ k.1 = 100 + t := ⟨k.1 - 100, by omega, by omega⟩
    obtain ⟨f, rfl, hf⟩ := gCe_a hce hkt ht
    have hv : Int32.ofNat k.2.1 = Int32.ofInt (k.2.1 : Int) := Int32.ofInt_eq_ofNat.symm
    have fin : ∀ ty, (gTys cA E)[t]? = some (cA t, ty) → W p l e R s m args below meth c H locs cells slots Qf (F0 m pc ls (.ref aa :: st)) := fun ty hty =>
      va_alen hx hb hK hP a t hec hty hv hdg (h0 _ _ _ _ _ _ _ hs ad ls _ ws H locs cells slots hnl hL (gSr.mk (gVr.mkI ⟨by omega, by omega⟩) hS) hW hP hD hSf hc1 hc2)
    rcases (show t = 0 ∨ t = 1 ∨ t = 2 by omega) with rfl | rfl | rfl
    · exact fin .int rfl
    · exact fin .boolean rfl
    · exact fin .char rfl
  · rename_i S'
    obtain ⟨hu, hs⟩ := gIs_t hs
    obtain ⟨Ls, xs, hX, hbs, hbA, hN, hLs, hxs⟩ := hscr hu
    obtain ⟨w, st, rfl, hw, hS⟩ := hS.c1
    rw [show w = .ref b from hw]
    refine va_slen hx hb hX hbs hbA hSf hdg ?_
    rw [← Int32.ofInt_eq_ofNat, ← hN]
    exact h0 _ _ _ _ _ _ _ hs ad ls _ ws H locs cells slots hnl hL (gSr.mk (gVr.mkI (by rw [hN]; exact ⟨by omega, by omega⟩)) hS) hW hP hD hSf hc1 hc2
  · exact hs.elim
theorem s_aaload (hx : p.tables.exec = Jvm.exec) (hb : c.code = cc) (hK : va_K D cl (gTys cA E) s) (hdg : decode cc pc = .ok (.aaload, 1)) (h0 : ∀ pc L S sh μ mc ms, P0 pc L S sh μ mc ms → gSP p l e R s m args below meth c Qf D cl cA a0 A b MC MS pc L S sh μ mc ms) (hs : match S with
    | .inl i :: .inr (.inl a) :: S' => gCel sh a fun c => gIs (Nat.beq c.1 103 && Nat.beq c.2.1 c.2.2.length) ((0 ≤ i ∧ i < c.2.1) ∧ gSel i 0 c.2.2 fun v => P0 (pc + 1) L (v :: S') sh μ mc ms)
    | _ => False) : gSP p l e R s m args below meth c Qf D cl cA a0 A b MC MS pc L S sh μ mc ms := by
  intro ad ls st ws H locs cells slots hnl hL hS hW hP hD hSf hc1 hc2
  split at hs
  · rename_i i a S'
    obtain ⟨k, hk, hs⟩ := gCel_i hs
    obtain ⟨hkx, ⟨hi0, hi1⟩, hs⟩ := gIs_t hs
    rw [Bool.and_eq_true] at hkx
    have hkx : k.1 = 103 := Nat.eq_of_beq_eq_true hkx.1
    obtain ⟨st, rfl, oki, hS⟩ := hS.i1
    obtain ⟨aa, st, rfl, haa, hS⟩ := hS.r1
    obtain ⟨ec, hec, hce⟩ := hW.at hk haa
    obtain ⟨hlen, f, rfl, hf⟩ := gCe_q hce hkx
    have hi2 : i.toNat < k.2.2.length := by omega
    have hg : k.2.2[i.toNat]? = some k.2.2[i.toNat] := List.getElem?_eq_getElem hi2
    obtain ⟨v, hv, hs⟩ := gSel_i hs hg (by omega)
    refine va_aldq hx hb hK hP a 3 hec rfl (g_in oki hi0 hi1) hdg ?_
    rw [g_cl oki]
    rcases hf _ _ hg with ⟨h1, h2⟩ | ⟨r, ra, h1, h2, h3⟩
    · rw [h2]
      rw [h1] at hv
      cases hv
      exact h0 _ _ _ _ _ _ _ hs ad ls _ ws H locs cells slots hnl hL (gSr.mk gVr.mkN hS) hW hP hD hSf hc1 hc2
    · rw [h3]
      rw [h1] at hv
      cases hv
      exact h0 _ _ _ _ _ _ _ hs ad ls _ ws H locs cells slots hnl hL (gSr.mk (gVr.mkR h2) hS) hW hP hD hSf hc1 hc2
  · exact hs.elim
theorem s_aastore (hx : p.tables.exec = Jvm.exec) (hb : c.code = cc) (hK : va_K D cl (gTys cA E) s) {x : Nat} {Tf : u_T} {N : Nat} (hcl : cl[x]? = some (E, Tf, N)) (hx1 : x < 100) (hdg : decode cc pc = .ok (.aastore, 1)) (h0 : ∀ pc L S sh μ mc ms, P0 pc L S sh μ mc ms → gSP p l e R s m args below meth c Qf D cl cA a0 A b MC MS pc L S sh μ mc ms) (hs : match S with
    | .inr (.inl r) :: .inl i :: .inr (.inl a) :: S' => gCel sh a fun c => gCel sh r fun c' => gIs (Nat.beq c.1 103 && Nat.beq c'.1 x) ((0 ≤ i ∧ i < c.2.1) ∧ P0 (pc + 1) L S' (sh.set a (c.1, c.2.1, c.2.2.set i.toNat (some (gR r)))) μ mc ms)
    | _ => False) : gSP p l e R s m args below meth c Qf D cl cA a0 A b MC MS pc L S sh μ mc ms := by
  intro ad ls st ws H locs cells slots hnl hL hS hW hP hD hSf hc1 hc2
  split at hs
  · rename_i r i a S'
    obtain ⟨k, hk, hs⟩ := gCel_i hs
    obtain ⟨k', hk', hs⟩ := gCel_i hs
    obtain ⟨hkx, ⟨hi0, hi1⟩, hs⟩ := gIs_t hs
    rw [Bool.and_eq_true] at hkx
    have hkx' : k'.1 = x := Nat.eq_of_beq_eq_true hkx.2
    have hkx : k.1 = 103 := Nat.eq_of_beq_eq_true hkx.1
    obtain ⟨ra, st, rfl, hra, hS⟩ := hS.r1
    obtain ⟨st, rfl, oki, hS⟩ := hS.i1
    obtain ⟨aa, st, rfl, haa, hS⟩ := hS.r1
    obtain ⟨ec, hec, hce⟩ := hW.at hk haa
    obtain ⟨ec', hec', hce'⟩ := hW.at hk' hra
    obtain ⟨hlen, f, rfl, hf⟩ := gCe_q hce hkx
    obtain ⟨-, fs, rfl, -, -⟩ := gCe_o hce' (by omega)
    rw [hkx'] at hec'
    refine va_astq hx hb hK hP hD hSf a 3 r x (r := (E, Tf, N)) hec rfl hec' hcl (g_in oki hi0 hi1) hdg fun H1 locs1 hP1 hD1 hS1 => ?_
    have hW1 := hW.set (μ' := μ) (c' := (k.1, k.2.1, k.2.2.set i.toNat (some (gR r)))) (e' := .inl (cA 3, k.2.1, .inr (.inr (.inr (.inr (va_up f (Int32.ofInt i).toNatClampNeg (some ra))))))) hk hec (by
      refine Or.inr (Or.inr ⟨hkx, by rw [List.length_set]; exact hlen, _, rfl, fun j o ho => ?_⟩)
      rw [g_cl oki]
      by_cases hji : j = i.toNat
      · subst hji
        rw [List.getElem?_set_self (by omega)] at ho
        cases ho
        exact Or.inr ⟨r, ra, rfl, hra, if_pos rfl⟩
      · rw [List.getElem?_set_ne (Ne.symm hji)] at ho
        have h9 : va_up f i.toNat (some ra) j = f j := if_neg hji
        rw [h9]
        exact hf j o ho) (fun j hj => rfl)
    exact h0 _ _ _ _ _ _ _ hs ad ls _ _ H1 locs1 cells slots hnl hL hS hW1 hP1 hD1 hS1 hc1 hc2
  · exact hs.elim
end GH
end
section
/-! ===== new cells, copies, calls, ends ===== -/
def gFs0 : List Nat → List Value
  | [] => []
  | k :: t => (if k < 2 then .int 0 else .null) :: gFs0 t
theorem gFs0_len : ∀ t : List Nat, (gFs0 t).length = t.length
  | [] => rfl
  | _ :: t => by rw [gFs0, List.length_cons, List.length_cons, gFs0_len t]
theorem gIni_len : ∀ t : List Nat, (gIni t).length = t.length
  | [] => rfl
  | _ :: t => by rw [gIni, List.length_cons, List.length_cons, gIni_len t]
theorem gFs0_at : ∀ (t : List Nat) (j : Nat), (gFs0 t)[j]? = (t[j]?).map fun k => if k < 2 then .int 0 else .null
  | [], j => by simp [gFs0]
  | k :: t, 0 => by simp [gFs0]
  | k :: t, j + 1 => by simp [gFs0, gFs0_at t j]
theorem gIni_at : ∀ (t : List Nat) (j : Nat), (gIni t)[j]? = (t[j]?).map fun k => if k < 2 then none else some (gN 0)
  | [], j => by simp [gIni]
  | k :: t, 0 => by simp [gIni]
  | k :: t, j + 1 => by simp [gIni, gIni_at t j]
/-- what the tables say of all fields of a kind of object -/
def gOb (F : Nat → List Nat) (x : Nat) (N : Nat) (ty : Nat → FieldType) : Prop := (F x).length = N ∧ ∀ (k kd : Nat), (F x)[k]? = some kd → (match kd with
    | 0 => ty k = .int
    | 1 => ty k = .boolean
    | 2 => (∃ n, ty k = .object n) ∨ ∃ t, ty k = .array t
    | _ => False)
theorem gSr.wt {ad : List Nat} {b : Nat} : ∀ {S : List GV} {st : List Value}, gSr ad b S st → (st.map fun v => v.category).sum = gWt S
  | [], [], _ => rfl
  | v :: S, w :: st, h => by
    have ih := gSr.wt h.2
    have hv := h.1
    rw [List.map_cons, List.sum_cons, ih]
    rcases v with n | k | n | k
    · rw [hv.1]; rfl
    · obtain ⟨a, -, rfl⟩ := hv; rfl
    · rw [show w = .long (Int64.ofInt n) from hv]; rfl
    · match k, hv with
      | 0, hv => rw [show w = .null from hv]; rfl
      | 1, hv => rw [show w = .ref b from hv]; rfl
theorem gSr.len {ad : List Nat} {b : Nat} : ∀ {S : List GV} {st : List Value}, gSr ad b S st → st.length = S.length
  | [], [], _ => rfl
  | _ :: _, _ :: _, h => by rw [List.length_cons, List.length_cons, gSr.len h.2]
theorem gSr.app {ad : List Nat} {b : Nat} : ∀ {S : List GV} {st : List Value} {S2 : List GV} {st2 : List Value}, gSr ad b S st → gSr ad b S2 st2 → gSr ad b (S ++ S2) (st ++ st2)
  | [], [], _, _, _, h2 => h2
  | _ :: _, _ :: _, _, _, h, h2 => ⟨h.1, gSr.app h.2 h2⟩
theorem gSr.rev {ad : List Nat} {b : Nat} : ∀ {S : List GV} {st : List Value}, gSr ad b S st → gSr ad b S.reverse st.reverse
  | [], [], _ => trivial
  | v :: S, w :: st, h => by
    rw [List.reverse_cons, List.reverse_cons]
    exact (gSr.rev h.2).app ⟨h.1, trivial⟩
theorem gSr.take {ad : List Nat} {b : Nat} : ∀ (n : Nat) {S : List GV} {st : List Value}, gSr ad b S st → gSr ad b (S.take n) (st.take n) ∧ gSr ad b (S.drop n) (st.drop n)
  | 0, _, _, h => ⟨trivial, h⟩
  | n + 1, [], [], _ => ⟨trivial, trivial⟩
  | n + 1, _ :: _, _ :: _, h => ⟨⟨h.1, (gSr.take n h.2).1⟩, (gSr.take n h.2).2⟩
theorem gSr.at {ad : List Nat} {b : Nat} : ∀ {S : List GV} {st : List Value}, gSr ad b S st → ∀ {i : Nat} {v : GV}, S[i]? = some v → ∃ w, st[i]? = some w ∧ gVr ad b v w
  | [], [], _, i, v, hv => by simp at hv
  | u :: S, w :: st, h, 0, v, hv => by
    simp at hv; subst hv
    exact ⟨w, rfl, h.1⟩
  | u :: S, w :: st, h, i + 1, v, hv => by
    obtain ⟨x, h1, h2⟩ := gSr.at h.2 (i := i) (v := v) (by simpa using hv)
    exact ⟨x, by simpa using h1, h2⟩
theorem g_push {ad : List Nat} (q : Nat) (k a : Nat) (h : ad[k]? = some a) : (ad ++ [q])[k]? = some a := by
  rw [List.getElem?_append_left (List.getElem?_eq_some_iff.mp h).1]; exact h
theorem g_pushed {ad : List Nat} {n : Nat} (q : Nat) (h : ad.length = n) : (ad ++ [q])[n]? = some q := by
  subst h
  rw [List.getElem?_append_right (Nat.le_refl _), Nat.sub_self]; rfl
theorem gZ_s (μ : MU) (a : Nat) : gZ μ a a = fun _ => 0 := if_pos rfl
theorem gZ_o (μ : MU) {a k : Nat} (h : k ≠ a) : gZ μ a k = μ k := if_neg h
section GN
variable {p : Program} {l : Launch} {e : Env} {R : Room} {s : State} {m : MethodId} {args : Array Value} {below : List Frame} {meth : Method} {c : Code} {Qf : State → Prop}
variable {D : va_G} {cl : List vw_C} {cA : Nat → ClassId} {a0 : List Nat} {A : Nat → Prop} {b MC MS : Nat} {cc : ByteArray}
variable {pc : Nat} {L S : List GV} {sh : SH} {μ : MU} {mc ms : Nat}
variable {P0 : GP} {E own C : String} {Ts : List Cond} {F : Nat → List Nat}
theorem s_newarray (hx : p.tables.exec = Jvm.exec) (hb : c.code = cc) (hK : va_K D cl (gTys cA E) s) (hA : ∀ q, s.heap.size ≤ q → A q) (hMC : MC ≤ R.cells) (hMS : MS ≤ R.slots) (har : ∀ w ∈ ([.arrayClass .int, .arrayClass .boolean, .arrayClass .char] : List Jvm.Cond), w.before args s = true) {t : ArrayType} (hdg : decode cc pc = .ok (.newarray t, 2)) (h0 : ∀ pc L S sh μ mc ms, P0 pc L S sh μ mc ms → gSP p l e R s m args below meth c Qf D cl cA a0 A b MC MS pc L S sh μ mc ms) (hs : g1 S fun n S' => gIs (decide (0 ≤ n) && decide (n ≤ 100000) && Nat.ble 100 (gKind t) && Nat.ble 1 mc && Nat.ble n.toNat ms) (P0 (pc + 2) L (gR sh.length :: S') (sh ++ [(gKind t, n.toNat, [])]) (gZ μ sh.length) (mc - 1) (ms - n.toNat))) : gSP p l e R s m args below meth c Qf D cl cA a0 A b MC MS pc L S sh μ mc ms := by
  intro ad ls st ws H locs cells slots hnl hL hS hW hP hD hSf hc1 hc2
  obtain ⟨n, S', rfl, hs⟩ := g1_i hs
  obtain ⟨hq, hs⟩ := gIs_t hs
  simp only [Bool.and_eq_true, decide_eq_true_eq] at hq
  obtain ⟨⟨⟨⟨hn0, hn1⟩, hkd⟩, hmc⟩, hms⟩ := hq
  have hmc := Nat.le_of_ble_eq_true hmc
  have hms := Nat.le_of_ble_eq_true hms
  obtain ⟨st, rfl, okn, hS⟩ := hS.i1
  have hneg : ¬ Int32.ofInt n < 0 := by
    rw [show (0 : Int32) = Int32.ofInt 0 from rfl, g_lt okn (by decide)]; omega
  have fin : ∀ (u : Nat) (ty : FieldType), u < 3 → gKind t = 100 + u → (gTys cA E)[u]? = some (cA u, ty) → (∀ (x y : ClassId), va_RA s x ty → va_RA s y ty → x = y) → ∀ (q : Nat) (cA' : ClassId) (H1 : Heap), va_K D cl (gTys cA E ++ [(cA', ty)]) s → va_P D cl (ws ++ [(q, .inl (cA', n.toNat, .inl (fun _ => (0 : Int32))))]) H1 → va_D A (ws ++ [(q, .inl (cA', n.toNat, .inl (fun _ => (0 : Int32))))]) → va_S A s.heap H1 locs →
      W p l e R s m args below meth c H1 locs (cells + 1) (slots + n.toNat) Qf (F0 m (pc + 2) ls (.ref q :: st)) := by
    intro u ty hu hku htu hinj q cA' H1 hK' hP1 hD1 hS1
    have hcA : cA' = cA u := hinj _ _ (hK'.2 4 (cA', ty) rfl).2 (hK.2 u _ htu).2
    subst hcA
    have hW1 := hW.push (μ' := gZ μ sh.length) (q := q) (c := (gKind t, n.toNat, [])) (e := .inl (cA u, n.toNat, .inl (fun _ => (0 : Int32)))) (by
      refine Or.inr (Or.inl ⟨by show 100 ≤ gKind t; omega, by show gKind t < 103; omega, fun _ => 0, ?_, fun j hj => ?_⟩)
      · show _ = Sum.inl (cA (gKind t - 100), n.toNat, Sum.inl fun _ => 0)
        rw [hku, Nat.add_sub_cancel_left]
      · rw [gZ_s]; exact ⟨rfl, show gOk 0 by decide⟩) (fun j hj => gZ_o μ hj)
    exact h0 _ _ _ _ _ _ _ hs (ad ++ [q]) ls _ _ H1 locs (cells + 1) (slots + n.toNat) hnl (hL.mono (g_push q)) (gSr.mk (gVr.mkR (g_pushed q hW.len)) (hS.mono (g_push q))) hW1 hP1 hD1 hS1 (by omega) (by omega)
  cases t with
  | int => exact va_newa (atype := .int) (ty := .int) (N' := n.toNat) (a0 := (n.toNat, .inl (fun _ => (0 : Int32)))) hx hb (har (.arrayClass .int) (by simp)) rfl hK hP hD hSf hA (fun _ => rfl) hneg (g_cl okn) (show n.toNat * 4 ≤ 536870912 by omega) (by omega) (by omega) hdg (fin 0 .int (by decide) rfl rfl (fun x y h1 h2 => Option.some.inj (h1.symm.trans h2)))
  | boolean => exact va_newa (atype := .boolean) (ty := .boolean) (N' := n.toNat) (a0 := (n.toNat, .inl (fun _ => (0 : Int32)))) hx hb (har (.arrayClass .boolean) (by simp)) rfl hK hP hD hSf hA (fun _ => rfl) hneg (g_cl okn) (show n.toNat * 1 ≤ 536870912 by omega) (by omega) (by omega) hdg (fin 1 .boolean (by decide) rfl rfl (fun x y h1 h2 => Option.some.inj (h1.symm.trans h2)))
  | char => exact va_newa (atype := .char) (ty := .char) (N' := n.toNat) (a0 := (n.toNat, .inl (fun _ => (0 : Int32)))) hx hb (har (.arrayClass .char) (by simp)) rfl hK hP hD hSf hA (fun _ => rfl) hneg (g_cl okn) (show n.toNat * 2 ≤ 536870912 by omega) (by omega) (by omega) hdg (fin 2 .char (by decide) rfl rfl (fun x y h1 h2 => Option.some.inj (h1.symm.trans h2)))
  | _ => exact absurd hkd (by decide)
theorem s_anew (hx : p.tables.exec = Jvm.exec) (hb : c.code = cc) (hK : va_K D cl (gTys cA E) s) (hA : ∀ q, s.heap.size ≤ q → A q) (hMC : MC ≤ R.cells) (hMS : MS ≤ R.slots) {idx : Nat} (hown : s.vm.findClass own = some m.cls) (hcl : (Cond.classLink own idx E).before args s = true) (hAO : va_AO E s) (hdg : decode cc pc = .ok (.anewarray idx, 3)) (h0 : ∀ pc L S sh μ mc ms, P0 pc L S sh μ mc ms → gSP p l e R s m args below meth c Qf D cl cA a0 A b MC MS pc L S sh μ mc ms) (hs : g1 S fun n S' => gIs (decide (0 ≤ n) && decide (n ≤ 100000) && Nat.ble 1 mc && Nat.ble n.toNat ms) (P0 (pc + 3) L (gR sh.length :: S') (sh ++ [(103, n.toNat, List.replicate n.toNat (some (gN 0)))]) (gZ μ sh.length) (mc - 1) (ms - n.toNat))) : gSP p l e R s m args below meth c Qf D cl cA a0 A b MC MS pc L S sh μ mc ms := by
  intro ad ls st ws H locs cells slots hnl hL hS hW hP hD hSf hc1 hc2
  obtain ⟨n, S', rfl, hs⟩ := g1_i hs
  obtain ⟨hq, hs⟩ := gIs_t hs
  simp only [Bool.and_eq_true, decide_eq_true_eq] at hq
  obtain ⟨⟨⟨hn0, hn1⟩, hmc⟩, hms⟩ := hq
  have hmc := Nat.le_of_ble_eq_true hmc
  have hms := Nat.le_of_ble_eq_true hms
  obtain ⟨st, rfl, okn, hS⟩ := hS.i1
  have hneg : ¬ Int32.ofInt n < 0 := by
    rw [show (0 : Int32) = Int32.ofInt 0 from rfl, g_lt okn (by decide)]; omega
  refine va_newq hx hb hown hcl hAO hK hP hD hSf hA hneg (g_cl okn) (by omega) (by omega) (by omega) hdg fun q cA' H1 hK' hP1 hD1 hS1 => ?_
  have hcA : cA' = cA 3 := by
    obtain ⟨_, _, _, _, _, h1⟩ := (hK'.2 4 (cA', .object E) rfl).2
    obtain ⟨_, _, _, _, _, h2⟩ := (hK.2 3 (cA 3, .object E) rfl).2
    exact Option.some.inj (h1.symm.trans h2)
  subst hcA
  have hW1 := hW.push (μ' := gZ μ sh.length) (q := q) (c := (103, n.toNat, List.replicate n.toNat (some (gN 0)))) (e := .inl (cA 3, n.toNat, .inr (.inr (.inr (.inr (fun _ => none)))))) (by
    refine Or.inr (Or.inr ⟨rfl, List.length_replicate, fun _ => none, rfl, fun j o ho => Or.inl ⟨?_, rfl⟩⟩)
    have h9 := (List.getElem?_eq_some_iff.mp ho)
    obtain ⟨h10, h11⟩ := h9
    rw [← h11]
    exact List.getElem_replicate ..) (fun j hj => gZ_o μ hj)
  exact h0 _ _ _ _ _ _ _ hs (ad ++ [q]) ls _ _ H1 locs (cells + 1) (slots + n.toNat) hnl (hL.mono (g_push q)) (gSr.mk (gVr.mkR (g_pushed q hW.len)) (hS.mono (g_push q))) hW1 hP1 hD1 hS1 (by omega) (by omega)
theorem s_new (hx : p.tables.exec = Jvm.exec) (hb : c.code = cc) (hK : va_K D cl (gTys cA E) s) (hA : ∀ q, s.heap.size ≤ q → A q) (hMC : MC ≤ R.cells) (hMS : MS ≤ R.slots) {idx x : Nat} {y : Int} {Tf : u_T} {N : Nat} {ty : Nat → FieldType} (hts : ∀ w ∈ Ts, w.before args s = true) (hown : s.vm.findClass own = some m.cls) (hcl : cl[x]? = some (C, Tf, N)) (hx1 : x < 100) (hy : y.toNat = N) (hin : ∀ w ∈ u_ws C Tf N, w ∈ Ts) (hty : ∀ j, j < N → parseFieldDescriptor (Tf j).2.2.1 = some (ty j)) (hob : gOb F x N ty) (hlk : (Cond.classLink own idx C).before args s = true) (hins : (Cond.instantiable C N).before args s = true) (hini : (Cond.initialized C).before args s = true) (hdg : decode cc pc = .ok (.new idx, 3)) (h0 : ∀ pc L S sh μ mc ms, P0 pc L S sh μ mc ms → gSP p l e R s m args below meth c Qf D cl cA a0 A b MC MS pc L S sh μ mc ms) (hs : gIs (Nat.ble 1 mc && Nat.ble y.toNat ms) (P0 (pc + 3) L (gR sh.length :: S) (sh ++ [(x, y.toNat, gIni (F x))]) (gZ μ sh.length) (mc - 1) (ms - y.toNat))) : gSP p l e R s m args below meth c Qf D cl cA a0 A b MC MS pc L S sh μ mc ms := by
  intro ad ls st ws H locs cells slots hnl hL hS hW hP hD hSf hc1 hc2
  obtain ⟨hq, hs⟩ := gIs_t hs
  rw [Bool.and_eq_true] at hq
  have hmc := Nat.le_of_ble_eq_true hq.1
  have hms := Nat.le_of_ble_eq_true hq.2
  rw [hy] at hs hms
  obtain ⟨hlen, hkd⟩ := hob
  have hdv : ∀ j, j < N → defaultValue (ty j) = vp_V (gFs0 (F x)) j := by
    intro j hj
    have h1 : (F x)[j]? = some (F x)[j] := List.getElem?_eq_getElem (by omega)
    have h2 := hkd j _ h1
    have h3 : (gFs0 (F x))[j]? = some (if (F x)[j] < 2 then .int 0 else .null) := by rw [gFs0_at, h1]; rfl
    show _ = (gFs0 (F x)).getD j .null
    rw [List.getD_eq_getElem?_getD, h3]
    match h9 : (F x)[j], h2 with
    | 0, h2 => rw [show ty j = .int from h2]; rfl
    | 1, h2 => rw [show ty j = .boolean from h2]; rfl
    | 2, h2 =>
      rcases h2 with ⟨n, e1⟩ | ⟨n, e1⟩ <;> rw [e1] <;> rfl
  refine va_new hx hb hts hin ty hty hown hlk hins hini hK hP hD hSf hA hcl hdv (by omega) (by omega) hdg fun q H1 hP1 hD1 hS1 => ?_
  have hW1 := hW.push (μ' := gZ μ sh.length) (q := q) (c := (x, N, gIni (F x))) (e := .inr (x, gFs0 (F x))) (by
    refine Or.inl ⟨hx1, by rw [gIni_len]; exact hlen, _, rfl, by rw [gFs0_len]; exact hlen, fun j o ho => ?_⟩
    have ho : (gIni (F x))[j]? = some o := ho
    rw [gIni_at] at ho
    rw [gFs0_at]
    cases hkk : (F x)[j]? with
    | none => rw [hkk] at ho; cases ho
    | some kd =>
      rw [hkk] at ho
      cases ho
      by_cases h2 : kd < 2
      · refine ⟨.int 0, by simp [h2], ?_⟩
        dsimp only
        rw [if_pos h2]
        show gVr _ b (gI (gZ μ sh.length sh.length j)) _
        rw [gZ_s]
        exact ⟨rfl, show gOk 0 by decide⟩
      · refine ⟨.null, by simp [h2], ?_⟩
        dsimp only
        rw [if_neg h2]
        exact ⟨rfl, rfl⟩) (fun j hj => gZ_o μ hj)
  exact h0 _ _ _ _ _ _ _ hs (ad ++ [q]) ls _ _ H1 locs (cells + 1) (slots + N) hnl (hL.mono (g_push q)) (gSr.mk (gVr.mkR (g_pushed q hW.len)) (hS.mono (g_push q))) hW1 hP1 hD1 hS1 (by omega) (by omega)
theorem s_copy (hx : p.tables.exec = Jvm.exec) (hb : c.code = cc) (hK : va_K D cl (gTys cA E) s) {idx : Nat} (hown : s.vm.findClass own = some m.cls) (hlink : (Cond.methodLink own idx arraycopyName).before args s = true) (hnat : (Cond.native arraycopyName).before args s = true) (hstat : (Cond.static arraycopyName).before args s = true) (hini : (Cond.initialized "java/lang/System").before args s = true) (hR1 : 1 ≤ R.frames) (hR2 : 40 ≤ R.locals) (hdg : decode cc pc = .ok (.invokestatic idx, 3)) (h0 : ∀ pc L S sh μ mc ms, P0 pc L S sh μ mc ms → gSP p l e R s m args below meth c Qf D cl cA a0 A b MC MS pc L S sh μ mc ms) (hs : gCopy P0 pc L S sh μ mc ms) : gSP p l e R s m args below meth c Qf D cl cA a0 A b MC MS pc L S sh μ mc ms := by
  intro ad ls st ws H locs cells slots hnl hL hS hW hP hD hSf hc1 hc2
  unfold gCopy at hs
  split at hs
  · rename_i n dp bb sp aa S'
    obtain ⟨ka, hka, hs⟩ := gCel_i hs
    obtain ⟨kb, hkb, hs⟩ := gCel_i hs
    obtain ⟨hq, ⟨h1, h2, h3, h4, h5⟩, hs⟩ := gIs_t hs
    rw [Bool.and_eq_true, Bool.and_eq_true] at hq
    have hqa : ka.1 = 100 + 0 := Nat.eq_of_beq_eq_true hq.1.1
    have hqb : kb.1 = 100 + 0 := Nat.eq_of_beq_eq_true hq.1.2
    have hwt := Nat.le_of_ble_eq_true hq.2
    obtain ⟨st, rfl, okn, hS⟩ := hS.i1
    obtain ⟨st, rfl, okd, hS⟩ := hS.i1
    obtain ⟨ba, st, rfl, hba, hS⟩ := hS.r1
    obtain ⟨st, rfl, oks, hS⟩ := hS.i1
    obtain ⟨aaa, st, rfl, haa, hS⟩ := hS.r1
    obtain ⟨ea, hea, hca⟩ := hW.at hka haa
    obtain ⟨eb, heb, hcb⟩ := hW.at hkb hba
    obtain ⟨f, rfl, hf⟩ := gCe_a hca hqa (by decide)
    obtain ⟨g, rfl, hg⟩ := gCe_a hcb hqb (by decide)
    have hnn : ∀ {z : Int}, gOk z → 0 ≤ z → ¬ Int32.ofInt z < 0 := fun {z} hz h => by
      rw [show (0 : Int32) = Int32.ofInt 0 from rfl, g_lt hz (by decide)]; omega
    obtain ⟨lv, hlv, hlv2⟩ := id hL
    refine va_copyi hx hb (by rw [hnl]; exact hlv.1.symm) hown hlink hnat hstat hini hK hP hD hSf aa bb 0 0 hea heb rfl rfl rfl (hnn oks h1) (hnn okd h2) (hnn okn h3) (by rw [g_cl oks, g_cl okn]; omega) (by rw [g_cl okd, g_cl okn]; omega) (fun _ _ => rfl) hR1 (by rw [hS.wt, show nativeFrameWords "java/lang/System" "arraycopy" 5 = 7 from by decide]; omega) hdg fun H1 locs1 hP1 hD1 hS1 => ?_
    have hW1 := hW.set (μ' := gCp μ aa sp bb dp n) (c' := kb) (e' := .inl (cA 0, kb.2.1, .inl (va_cpy f g (Int32.ofInt sp).toNatClampNeg (Int32.ofInt dp).toNatClampNeg (Int32.ofInt n).toNatClampNeg))) hkb heb (by
      refine Or.inr (Or.inl ⟨by omega, by omega, _, by rw [hqb], fun j hj => ?_⟩)
      rw [g_cl oks, g_cl okd, g_cl okn]
      have hrow : gCp μ aa sp bb dp n bb = fun j => if dp ≤ j ∧ j < dp + n then μ aa (sp + (j - dp)) else μ bb j := if_pos rfl
      rw [hrow]
      by_cases hin : dp ≤ (j : Int) ∧ (j : Int) < dp + n
      · rw [pk_cpy_in (by omega) (by omega)]
        have h9 := hf (sp.toNat + (j - dp.toNat)) (by omega)
        rw [show ((sp.toNat + (j - dp.toNat) : Nat) : Int) = sp + (j - dp) by omega] at h9
        simp only [hin, and_self, if_true]
        exact h9
      · rw [pk_cpy_out (by omega)]
        simp only [hin, if_false]
        exact hg j hj) (fun j hj => if_neg hj)
    rw [gSh_set hkb] at hW1
    exact h0 _ _ _ _ _ _ _ hs ad ls _ _ H1 locs1 cells slots hnl hL hS hW1 hP1 hD1 hS1 hc1 hc2
  · exact hs.elim
theorem s_objInit (hx : p.tables.exec = Jvm.exec) (hb : c.code = cc) {idx : Nat} (hown : s.vm.findClass own = some m.cls) (hlink : (Cond.methodLink own idx Lib.objectInit).before args s = true) (hinst : (Cond.instanceMethod Lib.objectInit).before args s = true) (hcode : (Cond.code Lib.objectInit ⟨#[0xb1]⟩ 1 none).before args s = true) (hR1 : 1 ≤ R.frames) (hR2 : 40 ≤ R.locals) (hdg : decode cc pc = .ok (.invokespecial idx, 3)) (h0 : ∀ pc L S sh μ mc ms, P0 pc L S sh μ mc ms → gSP p l e R s m args below meth c Qf D cl cA a0 A b MC MS pc L S sh μ mc ms) (hs : gRf S fun _ S' => gIs (Nat.ble (gWt S') 8) (P0 (pc + 3) L S' sh μ mc ms)) : gSP p l e R s m args below meth c Qf D cl cA a0 A b MC MS pc L S sh μ mc ms := by
  intro ad ls st ws H locs cells slots hnl hL hS hW hP hD hSf hc1 hc2
  obtain ⟨a, S', rfl, hs⟩ := gRf_i hs
  obtain ⟨hq, hs⟩ := gIs_t hs
  have hq := Nat.le_of_ble_eq_true hq
  obtain ⟨aa, st, rfl, haa, hS⟩ := hS.r1
  obtain ⟨lv, hlv, hlv2⟩ := id hL
  refine W.objInit hx hb hown hlink hinst hcode rfl (by rw [hnl]; exact hlv.1) rfl hdg hR1 (by rw [hS.wt]; show 2 * 0 + _ + 12 ≤ _; omega) ?_
  exact W.eq rfl (h0 _ _ _ _ _ _ _ hs ad ls st ws H locs cells slots hnl hL hS hW hP hD hSf hc1 hc2)
/-- behind any call -/
theorem g_back {Qa : State → Outcome → State → Prop} {mc' ms' cells slots : Nat} {H : Heap} {locs : List Loc} {ls : Array Slot} {st0 rest : List Value} {free : Addr → Prop} (hr : va_Run p l e R s m args below meth c H locs cells slots mc' ms' (F0 m pc ls st0) rest Qa free)
    (kk : ∀ (v : Option Value) (u t : State) (H1 : Heap) (L1 : List Loc), u.heap = H → t.heap = H1 → s.vm.Alike t.vm → Qa u (.returned v) t → (∀ q ∈ L1, free q.base) → W p l e R s m args below meth c H1 (locs ++ L1) (cells + mc') (slots + ms') Qf (F0 m (pc + 3) ls (v.toList ++ rest))) : W p l e R s m args below meth c H locs cells slots Qf (F0 m pc ls st0) := by
  intro T hT X
  obtain ⟨v, st₀, t, T', L1, e0, X', hL, e1, e2, hq, st⟩ := hr T hT X
  obtain ⟨t2, a1, b1⟩ := kk v st₀ t T'.heap L1 e0 e1.symm (by rw [← e2]; exact X'.warmed.alike) hq hL T' rfl X'
  exact ⟨t2, st t2 a1, b1⟩
def gVo (ad : List Nat) (b : Nat) : Option GV → Option Value → Prop
  | none, none => True
  | some g, some v => gVr ad b g v
  | _, _ => False
theorem gVo.sr {ad : List Nat} {b : Nat} {r : Option GV} {v : Option Value} (h : gVo ad b r v) {S : List GV} {st : List Value} (hS : gSr ad b S st) : gSr ad b (r.toList ++ S) (v.toList ++ st) := by
  cases r with
  | none =>
    cases v with
    | none => exact hS
    | some v => exact h.elim
  | some g =>
    cases v with
    | none => exact h.elim
    | some v => exact ⟨h, hS⟩
/-- what is known of the tables at every state of the run -/
def gKx (D : va_G) (cl : List vw_C) (cA : Nat → ClassId) (E : String) (nests : List (String × Nat × MethodName × String)) (U : State) : Prop := va_K D cl (gTys cA E) U ∧ (∀ q ∈ nests, va_Nw (.methodLinkNest q.1 q.2.1 q.2.2.1 q.2.2.2) U) ∧ va_AO E U
theorem gKx.same {cl : List vw_C} {nests : List (String × Nat × MethodName × String)} {u U : State} (h : gKx D cl cA E nests u) (he : u.vm = U.vm) : gKx D cl cA E nests U := by
  have hal : u.vm.Alike U.vm := by rw [he]; exact Vm.Alike.refl _
  exact ⟨va_K.moved hal h.1, fun q hq => va_Nw.same rfl he (h.2.1 q hq), va_AO.moved hal h.2.2⟩
theorem gKx.warm {cl : List vw_C} {nests : List (String × Nat × MethodName × String)} {u U : State} (h : gKx D cl cA E nests u) (hw : u.WarmedH U.vm) : gKx D cl cA E nests U :=
  ⟨va_K.moved hw.alike h.1, fun q hq => va_Nw.warmM hw (h.2.1 q hq), va_AO.moved hw.alike h.2.2⟩
/-- the script, at every state of the run -/
def gZc (b : Nat) (NN : Int) (XX : Int → Int) (A : Nat → Prop) (U : State) : Prop := ∃ (Ls : Nat) (xs : Nat → Int32), va_X b Ls xs U U.heap ∧ b < U.heap.size ∧ ¬ A b ∧ NN = Ls ∧ Ls < 2147483648 ∧ ∀ j : Nat, j < Ls → xs j = Int32.ofInt (XX j) ∧ gOk (XX j)
theorem gZc.at {b : Nat} {NN : Int} {XX : Int → Int} {A : Nat → Prop} {s U : State} {H : Heap} {locs : List Loc} (h : gZc b NN XX A s) (hS : va_S A s.heap H locs) (hU : U.heap = H) (hw : s.WarmedH U.vm) : gZc b NN XX A U := by
  obtain ⟨Ls, xs, h1, h2, h3, h4⟩ := h
  refine ⟨Ls, xs, (h1.kept ?_).moved hw.alike, by rw [hU]; exact Nat.lt_of_lt_of_le h2 hS.1, h3, h4⟩
  rw [hU]
  exact hS.2.1 b h2 h3
def gPre (D : va_G) (cl : List vw_C) (cA : Nat → ClassId) (E : String) (nests : List (String × Nat × MethodName × String)) (A : Nat → Prop) (b : Nat) (NN : Int) (XX : Int → Int) (ws : va_W) (U : State) : Prop := va_P D cl ws U.heap ∧ va_D A ws ∧ gKx D cl cA E nests U ∧ (∀ q, U.heap.size ≤ q → A q) ∧ gZc b NN XX A U
def gPost (D : va_G) (cl : List vw_C) (cA : Nat → ClassId) (A : Nat → Prop) (b : Nat) (ad : List Nat) (Q : GQ) : Array Value → State → Outcome → State → Prop := fun _ u oc t =>
  (∃ (r : Option GV) (sh' : SH) (μ' : MU) (ad' : List Nat) (ws' : va_W) (v : Option Value), oc = .returned v ∧ gVo ad' b r v ∧ Q r sh' μ' ∧ gWr cA ad ad' b sh' μ' ws' ∧ va_P D cl ws' t.heap ∧ va_D A ws') ∧ va_F A u t
/-- the contract of the method j, from a call of the small machine -/
def gCt (l : Launch) (T : Nat → GM) (Yf : Nat → MethodName) (gws : Nat → List Cond) (rm : Nat → Room) (D : va_G) (cl : List vw_C) (cA : Nat → ClassId) (E : String) (nests : List (String × Nat × MethodName × String)) (A : Nat → Prop) (b : Nat) (NN : Int) (XX : Int → Int) (call : GCall) : Prop :=
  ∀ (j : Nat) (as : List GV) (sh : SH) (μ : MU) (Q : GQ), call j as sh μ Q → ∀ (ad : List Nat) (ws : va_W) (st : List Value), gSr ad b as st → gWr cA ad ad b sh μ ws →
    Met l (Yf j) (gws j) (rm j) (va_Pc st (gPre D cl cA E nests A b NN XX ws)) (gPost D cl cA A b ad Q) (T j).2.2.2.2.1 (T j).2.2.2.2.2.1 A
theorem gPre.blind {NN : Int} {XX : Int → Int} {st : List Value} {nests : List (String × Nat × MethodName × String)} {ws : va_W} : FrameBlind (va_Pc st (gPre D cl cA E nests A b NN XX ws)) := fun a U g mk h => by
  obtain ⟨h1, h2, h3, h4, h5, Ls, xs, h6, h7⟩ := h
  exact ⟨h1, h2, h3, h4.same rfl, h5, Ls, xs, h6.moved (U := U.calling g mk a) (Vm.Alike.refl U.vm), h7⟩
/-- the walk behind a call of the small machine -/
theorem s_inv {mc' ms' : Nat} {H : Heap} {locs : List Loc} {cells slots : Nat} {ls : Array Slot} {st0 st2 : List Value} {ad : List Nat} {S2 : List GV} {Qa : State → Outcome → State → Prop}
    (h0 : ∀ pc L S sh μ mc ms, P0 pc L S sh μ mc ms → gSP p l e R s m args below meth c Qf D cl cA a0 A b MC MS pc L S sh μ mc ms) (hnl : c.maxLocals = L.length) (hL : gLr ad b L ls) {sh0 : SH} {μ0 : MU} {ws0 : va_W} (hW0 : gWr cA a0 ad b sh0 μ0 ws0) (hS2 : gSr ad b S2 st2) (hSf : va_S A s.heap H locs) (hm : mc' ≤ mc) (hm2 : ms' ≤ ms) (hc1 : cells + mc ≤ MC) (hc2 : slots + ms ≤ MS)
    (hQa : ∀ u v t, Qa u (.returned v) t → gPost D cl cA A b ad (fun r sh' μ' => P0 (pc + 3) L (r.toList ++ S2) sh' μ' (mc - mc') (ms - ms')) #[] u (.returned v) t)
    (hr : va_Run p l e R s m args below meth c H locs cells slots mc' ms' (F0 m pc ls st0) st2 Qa A) : W p l e R s m args below meth c H locs cells slots Qf (F0 m pc ls st0) := by
  refine g_back hr fun v u t H1 L1 hu ht hal hq hL1 => ?_
  obtain ⟨⟨r, sh', μ', ad', ws', v', hv, hvo, hP0, hW1, hP1, hD1⟩, hF⟩ := hQa u v t hq
  cases hv
  rw [ht] at hP1
  have hmo := hW1.2.2.2
  have hW1 := hW1.base (fun k a q => hmo k a (hW0.2.2.2 k a q))
  refine h0 _ _ _ _ _ _ _ hP0 ad' ls _ ws' H1 (locs ++ L1) (cells + mc') (slots + ms') hnl (hL.mono hmo) (hvo.sr (hS2.mono hmo)) hW1 hP1 hD1 ⟨?_, fun q h1 h2 => ?_, fun q hq => ?_⟩ (by omega) (by omega)
  · have := hF.1; rw [hu, ht] at this; exact Nat.le_trans hSf.1 this
  · have := hF.2 q (by rw [hu]; exact Nat.lt_of_lt_of_le h1 hSf.1) h2
    rw [hu, ht] at this
    rw [this]
    exact hSf.2.1 q h1 h2
  · rcases List.mem_append.mp hq with h | h
    · exact hSf.2.2 q h
    · exact hL1 q h
theorem gInv_i {T : Nat → GM} {call : GCall} {x n : Nat} (hs : gInv T call P0 pc L S sh μ mc ms x n) : n ≤ S.length ∧ gWt (S.drop n) ≤ 8 ∧ (T x).2.2.2.2.1 ≤ mc ∧ (T x).2.2.2.2.2.1 ≤ ms ∧ call x (S.take n).reverse sh μ (fun r sh' μ' => P0 (pc + 3) L (r.toList ++ S.drop n) sh' μ' (mc - (T x).2.2.2.2.1) (ms - (T x).2.2.2.2.2.1)) := by
  obtain ⟨h, hs⟩ := gIs_t hs
  simp only [Bool.and_eq_true] at h
  exact ⟨Nat.le_of_ble_eq_true h.1.1.1, Nat.le_of_ble_eq_true h.1.1.2, Nat.le_of_ble_eq_true h.1.2, Nat.le_of_ble_eq_true h.2, hs⟩
theorem s_static {NN : Int} {XX : Int → Int} (hx : p.tables.exec = Jvm.exec) (hb : c.code = cc) {T : Nat → GM} {Yf : Nat → MethodName} {gws : Nat → List Cond} {rm : Nat → Room} {nests : List (String × Nat × MethodName × String)} {call : GCall} (hct : gCt l T Yf gws rm D cl cA E nests A b NN XX call) (hK : gKx D cl cA E nests s) (hA : ∀ q, s.heap.size ≤ q → A q) (hZ : gZc b NN XX A s) (hMC : MC ≤ R.cells) (hMS : MS ≤ R.slots) (hts : ∀ w ∈ Ts, w.before args s = true) (hown : s.vm.findClass own = some m.cls) {idx x n : Nat} {bytes : ByteArray} {ret : Option FieldType} (cw : CallB R s args own idx (Yf x) bytes (T x).2.2.1 ret (gws x) (rm x) (T x).2.2.2.2.1 (T x).2.2.2.2.2.1 n ∧ (Cond.static (Yf x)).before args s = true) (hdg : decode cc pc = .ok (.invokestatic idx, 3)) (h0 : ∀ pc L S sh μ mc ms, P0 pc L S sh μ mc ms → gSP p l e R s m args below meth c Qf D cl cA a0 A b MC MS pc L S sh μ mc ms) (hs : gInv T call P0 pc L S sh μ mc ms x n) : gSP p l e R s m args below meth c Qf D cl cA a0 A b MC MS pc L S sh μ mc ms := by
  intro ad ls st ws H locs cells slots hnl hL hS hW hP hD hSf hc1 hc2
  obtain ⟨hn, hwt, hm, hm2, hcall⟩ := gInv_i hs
  obtain ⟨lv, hlv, hlv2⟩ := id hL
  have hlsz : ls.size = c.maxLocals := by rw [hnl]; exact hlv.1
  have hU : ∀ U : State, U.heap = H → s.WarmedH U.vm → gPre D cl cA E nests A b NN XX ws U := fun U hU hw => ⟨by rw [hU]; exact hP, hD, hK.warm hw, fun q hq => hA q (Nat.le_trans hSf.1 (by rw [← hU]; exact hq)), hZ.at hSf hU hw⟩
  obtain ⟨h1, h2⟩ := hS.take n
  have h3 := h1.rev
  have hst : st = (st.take n).reverse.reverse ++ st.drop n := by rw [List.reverse_reverse, List.take_append_drop]
  have hlen : (st.take n).reverse.length = n := by rw [List.length_reverse, List.length_take, hS.len]; omega
  have hM := hct x _ _ _ _ hcall ad ws _ h3 (hW.base (fun _ _ q => q))
  exact s_inv h0 hnl hL hW h2 hSf hm hm2 hc1 hc2 (fun u v t hq => hq) (va_runS (As := (st.take n).reverse) (rest := st.drop n) ⟨hx, hb, rfl, hown, hts⟩ hM cw ⟨gPre.blind, fun U hU' hw => ⟨rfl, hU U hU' hw⟩⟩ rfl hlen hlsz hst (by rw [h2.wt]; show 2 * 0 + _ ≤ 8; omega) hdg ⟨by omega, by omega⟩)
theorem s_virtual {NN : Int} {XX : Int → Int} (hx : p.tables.exec = Jvm.exec) (hb : c.code = cc) {T : Nat → GM} {Yf : Nat → MethodName} {gws : Nat → List Cond} {rm : Nat → Room} {nests : List (String × Nat × MethodName × String)} {call : GCall} (hct : gCt l T Yf gws rm D cl cA E nests A b NN XX call) (hK : gKx D cl cA E nests s) (hA : ∀ q, s.heap.size ≤ q → A q) (hZ : gZc b NN XX A s) (hMC : MC ≤ R.cells) (hMS : MS ≤ R.slots) (hts : ∀ w ∈ Ts, w.before args s = true) (hown : s.vm.findClass own = some m.cls) {idx x n : Nat} {bytes : ByteArray} {ret : Option FieldType} (cw : CallW R s args own C idx (Yf x) bytes (T x).2.2.1 ret (gws x) (rm x) (T x).2.2.2.2.1 (T x).2.2.2.2.2.1 n) {Tf : u_T} {N : Nat} (hcl : cl[(T x).1]? = some (C, Tf, N)) (hc100 : (T x).1 < 100) (hdg : decode cc pc = .ok (.invokevirtual idx, 3)) (h0 : ∀ pc L S sh μ mc ms, P0 pc L S sh μ mc ms → gSP p l e R s m args below meth c Qf D cl cA a0 A b MC MS pc L S sh μ mc ms) (hs : match S[n]? with
    | some (.inr (.inl a)) => gCel sh a fun c => gIs (Nat.ble 1 (n + 1) && Nat.beq c.1 (T x).1) (gInv T call P0 pc L S sh μ mc ms x (n + 1))
    | _ => False) : gSP p l e R s m args below meth c Qf D cl cA a0 A b MC MS pc L S sh μ mc ms := by
  intro ad ls st ws H locs cells slots hnl hL hS hW hP hD hSf hc1 hc2
  split at hs
  · rename_i r hr
    obtain ⟨k, hk, hs⟩ := gCel_i hs
    obtain ⟨hq, hs⟩ := gIs_t hs
    rw [Bool.and_eq_true] at hq
    have hkx : k.1 = (T x).1 := Nat.eq_of_beq_eq_true hq.2
    obtain ⟨hn, hwt, hm, hm2, hcall⟩ := gInv_i hs
    obtain ⟨lv, hlv, hlv2⟩ := id hL
    have hlsz : ls.size = c.maxLocals := by rw [hnl]; exact hlv.1
    have hU : ∀ U : State, U.heap = H → s.WarmedH U.vm → gPre D cl cA E nests A b NN XX ws U := fun U hU hw => ⟨by rw [hU]; exact hP, hD, hK.warm hw, fun q hq => hA q (Nat.le_trans hSf.1 (by rw [← hU]; exact hq)), hZ.at hSf hU hw⟩
    obtain ⟨h1, h2⟩ := hS.take (n + 1)
    have h3 := h1.rev
    obtain ⟨w, hw, a, ha, rfl⟩ := hS.at hr
    obtain ⟨ec, hec, hce⟩ := hW.at hk ha
    obtain ⟨-, fs, rfl, -, -⟩ := gCe_o hce (by omega)
    rw [hkx] at hec
    have hlst := hS.len
    have htk : st.take (n + 1) = st.take n ++ [.ref a] := by rw [List.take_succ, hw]; rfl
    have hrev : (st.take (n + 1)).reverse = .ref a :: (st.take n).reverse := by rw [htk, List.reverse_append]; rfl
    have hst : st = (st.take n).reverse.reverse ++ .ref a :: st.drop (n + 1) := by
      rw [List.reverse_reverse]
      have := (List.take_append_drop (n + 1) st).symm
      rw [htk, List.append_assoc] at this
      exact this
    have hlen : (st.take n).reverse.length = n := by rw [List.length_reverse, List.length_take, hlst]; omega
    have hM := hct x _ _ _ _ hcall ad ws _ h3 (hW.base (fun _ _ q => q))
    refine s_inv h0 hnl hL hW h2 hSf hm hm2 hc1 hc2 (fun u v t hq => hq) (va_runV (C := C) (b := a) (As := (st.take n).reverse) (rest := st.drop (n + 1)) ⟨hx, hb, rfl, hown, hts⟩ hM cw ⟨gPre.blind, va_recv hK.1 hP hcl hec, fun U hU' hw => ⟨by rw [hrev], hU U hU' hw⟩⟩ rfl hlen hlsz hst (by rw [h2.wt]; show 2 * 0 + _ ≤ 8; omega) hdg ⟨by omega, by omega⟩)
  · exact hs.elim
theorem s_special {NN : Int} {XX : Int → Int} (hx : p.tables.exec = Jvm.exec) (hb : c.code = cc) {T : Nat → GM} {Yf : Nat → MethodName} {gws : Nat → List Cond} {rm : Nat → Room} {nests : List (String × Nat × MethodName × String)} {call : GCall} (hct : gCt l T Yf gws rm D cl cA E nests A b NN XX call) (hK : gKx D cl cA E nests s) (hA : ∀ q, s.heap.size ≤ q → A q) (hZ : gZc b NN XX A s) (hMC : MC ≤ R.cells) (hMS : MS ≤ R.slots) (hts : ∀ w ∈ Ts, w.before args s = true) (hown : s.vm.findClass own = some m.cls) {idx x n : Nat} {bytes : ByteArray} {ret : Option FieldType} (cw : CallB R s args own idx (Yf x) bytes (T x).2.2.1 none (gws x) (rm x) (T x).2.2.2.2.1 (T x).2.2.2.2.2.1 n ∧ (Yf x).name = "<init>" ∧ (Cond.instanceMethod (Yf x)).before args s = true) (hdg : decode cc pc = .ok (.invokespecial idx, 3)) (h0 : ∀ pc L S sh μ mc ms, P0 pc L S sh μ mc ms → gSP p l e R s m args below meth c Qf D cl cA a0 A b MC MS pc L S sh μ mc ms) (hs : match S[n]? with
    | some (.inr (.inl _)) => gIs (Nat.ble 1 (n + 1)) (gInv T call P0 pc L S sh μ mc ms x (n + 1))
    | _ => False) : gSP p l e R s m args below meth c Qf D cl cA a0 A b MC MS pc L S sh μ mc ms := by
  intro ad ls st ws H locs cells slots hnl hL hS hW hP hD hSf hc1 hc2
  split at hs
  · rename_i r hr
    obtain ⟨hq, hs⟩ := gIs_t hs
    obtain ⟨hn, hwt, hm, hm2, hcall⟩ := gInv_i hs
    obtain ⟨lv, hlv, hlv2⟩ := id hL
    have hlsz : ls.size = c.maxLocals := by rw [hnl]; exact hlv.1
    have hU : ∀ U : State, U.heap = H → s.WarmedH U.vm → gPre D cl cA E nests A b NN XX ws U := fun U hU hw => ⟨by rw [hU]; exact hP, hD, hK.warm hw, fun q hq => hA q (Nat.le_trans hSf.1 (by rw [← hU]; exact hq)), hZ.at hSf hU hw⟩
    obtain ⟨h1, h2⟩ := hS.take (n + 1)
    have h3 := h1.rev
    obtain ⟨w, hw, a, ha, rfl⟩ := hS.at hr
    have hlst := hS.len
    have htk : st.take (n + 1) = st.take n ++ [.ref a] := by rw [List.take_succ, hw]; rfl
    have hrev : (st.take (n + 1)).reverse = .ref a :: (st.take n).reverse := by rw [htk, List.reverse_append]; rfl
    have hst : st = (st.take n).reverse.reverse ++ .ref a :: st.drop (n + 1) := by
      rw [List.reverse_reverse]
      have := (List.take_append_drop (n + 1) st).symm
      rw [htk, List.append_assoc] at this
      exact this
    have hlen : (st.take n).reverse.length = n := by rw [List.length_reverse, List.length_take, hlst]; omega
    have hM := hct x _ _ _ _ hcall ad ws _ h3 (hW.base (fun _ _ q => q))
    refine s_inv h0 hnl hL hW h2 hSf hm hm2 hc1 hc2 (fun u v t hq => hq) (va_runI (b := a) (As := (st.take n).reverse) (rest := st.drop (n + 1)) ⟨hx, hb, rfl, hown, hts⟩ hM cw ⟨gPre.blind, fun U hU' hw => ⟨by rw [hrev], hU U hU' hw⟩⟩ rfl hlen hlsz hst (by rw [h2.wt]; show 2 * 0 + _ ≤ 8; omega) hdg ⟨by omega, by omega⟩)
  · exact hs.elim
theorem s_specialN {NN : Int} {XX : Int → Int} (hx : p.tables.exec = Jvm.exec) (hb : c.code = cc) {T : Nat → GM} {Yf : Nat → MethodName} {gws : Nat → List Cond} {rm : Nat → Room} {nests : List (String × Nat × MethodName × String)} {call : GCall} (hct : gCt l T Yf gws rm D cl cA E nests A b NN XX call) (hK : gKx D cl cA E nests s) (hA : ∀ q, s.heap.size ≤ q → A q) (hZ : gZc b NN XX A s) (hMC : MC ≤ R.cells) (hMS : MS ≤ R.slots) (hts : ∀ w ∈ Ts, w.before args s = true) (hown : s.vm.findClass own = some m.cls) {idx x n : Nat} {bytes : ByteArray} {ret : Option FieldType} {host : String} (cw : va_CN R s args own idx (Yf x) host bytes (T x).2.2.1 none (gws x) (rm x) (T x).2.2.2.2.1 (T x).2.2.2.2.2.1 n ∧ (Yf x).name = "<init>" ∧ (Cond.instanceMethod (Yf x)).before args s = true) (hdg : decode cc pc = .ok (.invokespecial idx, 3)) (h0 : ∀ pc L S sh μ mc ms, P0 pc L S sh μ mc ms → gSP p l e R s m args below meth c Qf D cl cA a0 A b MC MS pc L S sh μ mc ms) (hs : match S[n]? with
    | some (.inr (.inl _)) => gIs (Nat.ble 1 (n + 1)) (gInv T call P0 pc L S sh μ mc ms x (n + 1))
    | _ => False) : gSP p l e R s m args below meth c Qf D cl cA a0 A b MC MS pc L S sh μ mc ms := by
  intro ad ls st ws H locs cells slots hnl hL hS hW hP hD hSf hc1 hc2
  split at hs
  · rename_i r hr
    obtain ⟨hq, hs⟩ := gIs_t hs
    obtain ⟨hn, hwt, hm, hm2, hcall⟩ := gInv_i hs
    obtain ⟨lv, hlv, hlv2⟩ := id hL
    have hlsz : ls.size = c.maxLocals := by rw [hnl]; exact hlv.1
    have hU : ∀ U : State, U.heap = H → s.WarmedH U.vm → gPre D cl cA E nests A b NN XX ws U := fun U hU hw => ⟨by rw [hU]; exact hP, hD, hK.warm hw, fun q hq => hA q (Nat.le_trans hSf.1 (by rw [← hU]; exact hq)), hZ.at hSf hU hw⟩
    obtain ⟨h1, h2⟩ := hS.take (n + 1)
    have h3 := h1.rev
    obtain ⟨w, hw, a, ha, rfl⟩ := hS.at hr
    have hlst := hS.len
    have htk : st.take (n + 1) = st.take n ++ [.ref a] := by rw [List.take_succ, hw]; rfl
    have hrev : (st.take (n + 1)).reverse = .ref a :: (st.take n).reverse := by rw [htk, List.reverse_append]; rfl
    have hst : st = (st.take n).reverse.reverse ++ .ref a :: st.drop (n + 1) := by
      rw [List.reverse_reverse]
      have := (List.take_append_drop (n + 1) st).symm
      rw [htk, List.append_assoc] at this
      exact this
    have hlen : (st.take n).reverse.length = n := by rw [List.length_reverse, List.length_take, hlst]; omega
    have hM := hct x _ _ _ _ hcall ad ws _ h3 (hW.base (fun _ _ q => q))
    refine s_inv h0 hnl hL hW h2 hSf hm hm2 hc1 hc2 (fun u v t hq => hq) (va_runIN (b := a) (As := (st.take n).reverse) (rest := st.drop (n + 1)) ⟨hx, hb, rfl, hown, hts⟩ hM cw ⟨gPre.blind, fun U hU' hw => ⟨by rw [hrev], hU U hU' hw⟩⟩ rfl hlen hlsz hst (by rw [h2.wt]; show 2 * 0 + _ ≤ 8; omega) hdg ⟨by omega, by omega⟩)
  · exact hs.elim
theorem s_abs (hx : p.tables.exec = Jvm.exec) (hb : c.code = cc) {idx : Nat} (hown : s.vm.findClass own = some m.cls) (hlink : (Cond.methodLink own idx Lib.Math.abs.name).before args s = true) (hstat : (Cond.static Lib.Math.abs.name).before args s = true) (hini : (Cond.initialized "java/lang/Math").before args s = true) (hcode : (Cond.code Lib.Math.abs.name Lib.Math.abs.code 1 (some .int)).before args s = true) (hMC : MC ≤ R.cells) (hMS : MS ≤ R.slots) (hR1 : 1 ≤ R.frames) (hR2 : 40 ≤ R.locals) (hdg : decode cc pc = .ok (.invokestatic idx, 3)) (h0 : ∀ pc L S sh μ mc ms, P0 pc L S sh μ mc ms → gSP p l e R s m args below meth c Qf D cl cA a0 A b MC MS pc L S sh μ mc ms) (hs : g1 S fun a S' => gIs (Nat.ble (gWt S') 8) (gOk (-a) ∧ P0 (pc + 3) L (gI (gAbs a) :: S') sh μ mc ms)) : gSP p l e R s m args below meth c Qf D cl cA a0 A b MC MS pc L S sh μ mc ms := by
  intro ad ls st ws H locs cells slots hnl hL hS hW hP hD hSf hc1 hc2
  obtain ⟨a, S', rfl, hs⟩ := g1_i hs
  obtain ⟨hwt, okm, hs⟩ := gIs_t hs
  have hwt := Nat.le_of_ble_eq_true hwt
  obtain ⟨st, rfl, ok1, hS⟩ := hS.i1
  obtain ⟨lv, hlv, hlv2⟩ := id hL
  have ok : gOk (gAbs a) := by unfold gAbs; split <;> assumption
  have hv : (if 0 ≤ Int32.ofInt a then Int32.ofInt a else 0 - Int32.ofInt a) = Int32.ofInt (gAbs a) := by
    unfold gAbs
    have h9 : (0 : Int32) ≤ Int32.ofInt a ↔ 0 ≤ a := g_le (a := 0) (by decide) ok1
    by_cases h : 0 ≤ a
    · rw [if_pos (h9.mpr h), if_pos h]
    · rw [if_neg (fun q => h (h9.mp q)), if_neg h, Int32.ofInt_neg, Int32.zero_sub]
  refine va_mabs hx hb (by rw [hnl]; exact hlv.1.symm) hown hlink hstat hini hcode hR1 (by rw [hS.wt]; omega) (by omega) (by omega) hdg ?_
  rw [hv]
  exact h0 _ _ _ _ _ _ _ hs ad ls _ ws H locs cells slots hnl hL (gSr.mk (gVr.mkI ok) hS) hW hP hD hSf hc1 hc2
theorem s_max (hx : p.tables.exec = Jvm.exec) (hb : c.code = cc) {idx : Nat} (hown : s.vm.findClass own = some m.cls) (hlink : (Cond.methodLink own idx Lib.Math.max.name).before args s = true) (hstat : (Cond.static Lib.Math.max.name).before args s = true) (hini : (Cond.initialized "java/lang/Math").before args s = true) (hcode : (Cond.code Lib.Math.max.name Lib.Math.max.code 2 (some .int)).before args s = true) (hMC : MC ≤ R.cells) (hMS : MS ≤ R.slots) (hR1 : 1 ≤ R.frames) (hR2 : 40 ≤ R.locals) (hdg : decode cc pc = .ok (.invokestatic idx, 3)) (h0 : ∀ pc L S sh μ mc ms, P0 pc L S sh μ mc ms → gSP p l e R s m args below meth c Qf D cl cA a0 A b MC MS pc L S sh μ mc ms) (hs : g2 S fun a b S' => gIs (Nat.ble (gWt S') 8) (P0 (pc + 3) L (gI (max a b) :: S') sh μ mc ms)) : gSP p l e R s m args below meth c Qf D cl cA a0 A b MC MS pc L S sh μ mc ms := by
  intro ad ls st ws H locs cells slots hnl hL hS hW hP hD hSf hc1 hc2
  obtain ⟨a, d, S', rfl, hs⟩ := g2_i hs
  obtain ⟨hwt, hs⟩ := gIs_t hs
  have hwt := Nat.le_of_ble_eq_true hwt
  obtain ⟨st, rfl, ok2, hS⟩ := hS.i1
  obtain ⟨st, rfl, ok1, hS⟩ := hS.i1
  obtain ⟨lv, hlv, hlv2⟩ := id hL
  have ok : gOk (max a d) := by
    obtain ⟨h1, h2⟩ := ok1
    obtain ⟨h3, h4⟩ := ok2
    exact ⟨by omega, by omega⟩
  have hv : (if Int32.ofInt a < Int32.ofInt d then Int32.ofInt d else Int32.ofInt a) = Int32.ofInt (max a d) := by
    by_cases h : a < d
    · rw [if_pos ((g_lt ok1 ok2).mpr h)]; congr 1; omega
    · rw [if_neg (fun q => h ((g_lt ok1 ok2).mp q))]; congr 1; omega
  refine va_mmax hx hb (by rw [hnl]; exact hlv.1.symm) hown hlink hstat hini hcode hR1 (by rw [hS.wt]; omega) (by omega) (by omega) hdg ?_
  rw [hv]
  exact h0 _ _ _ _ _ _ _ hs ad ls _ ws H locs cells slots hnl hL (gSr.mk (gVr.mkI ok) hS) hW hP hD hSf hc1 hc2
theorem s_min (hx : p.tables.exec = Jvm.exec) (hb : c.code = cc) {idx : Nat} (hown : s.vm.findClass own = some m.cls) (hlink : (Cond.methodLink own idx Lib.Math.min.name).before args s = true) (hstat : (Cond.static Lib.Math.min.name).before args s = true) (hini : (Cond.initialized "java/lang/Math").before args s = true) (hcode : (Cond.code Lib.Math.min.name Lib.Math.min.code 2 (some .int)).before args s = true) (hMC : MC ≤ R.cells) (hMS : MS ≤ R.slots) (hR1 : 1 ≤ R.frames) (hR2 : 40 ≤ R.locals) (hdg : decode cc pc = .ok (.invokestatic idx, 3)) (h0 : ∀ pc L S sh μ mc ms, P0 pc L S sh μ mc ms → gSP p l e R s m args below meth c Qf D cl cA a0 A b MC MS pc L S sh μ mc ms) (hs : g2 S fun a b S' => gIs (Nat.ble (gWt S') 8) (P0 (pc + 3) L (gI (min a b) :: S') sh μ mc ms)) : gSP p l e R s m args below meth c Qf D cl cA a0 A b MC MS pc L S sh μ mc ms := by
  intro ad ls st ws H locs cells slots hnl hL hS hW hP hD hSf hc1 hc2
  obtain ⟨a, d, S', rfl, hs⟩ := g2_i hs
  obtain ⟨hwt, hs⟩ := gIs_t hs
  have hwt := Nat.le_of_ble_eq_true hwt
  obtain ⟨st, rfl, ok2, hS⟩ := hS.i1
  obtain ⟨st, rfl, ok1, hS⟩ := hS.i1
  obtain ⟨lv, hlv, hlv2⟩ := id hL
  have ok : gOk (min a d) := by
    obtain ⟨h1, h2⟩ := ok1
    obtain ⟨h3, h4⟩ := ok2
    exact ⟨by omega, by omega⟩
  have hv : (if Int32.ofInt d < Int32.ofInt a then Int32.ofInt d else Int32.ofInt a) = Int32.ofInt (min a d) := by
    by_cases h : d < a
    · rw [if_pos ((g_lt ok2 ok1).mpr h)]; congr 1; omega
    · rw [if_neg (fun q => h ((g_lt ok2 ok1).mp q))]; congr 1; omega
  refine va_mmin hx hb (by rw [hnl]; exact hlv.1.symm) hown hlink hstat hini hcode hR1 (by rw [hS.wt]; omega) (by omega) (by omega) hdg ?_
  rw [hv]
  exact h0 _ _ _ _ _ _ _ hs ad ls _ ws H locs cells slots hnl hL (gSr.mk (gVr.mkI ok) hS) hW hP hD hSf hc1 hc2
end GN
end
section
/-! ===== the whole: a run of the small machine is a run of the real one ===== -/
/-- what the tables must say of a row -/
def gRow (T : Nat → GM) (F : Nat → List Nat) (Yf : Nat → MethodName) (Bf : Nat → ByteArray) (Rf : Nat → Option FieldType) (cl : List vw_C) (E : String) (nests : List (String × Nat × MethodName × String)) (Ts : List Jvm.Cond) (own : String) (ini : Bool) (cc : ByteArray) (pc : Nat) (i : Instr) (x : Nat) (y : Int) : Prop := match i with
  | .aload _ | .iload _ | .lload _ | .istore _ | .lstore _ | .bipush _ | .newarray _ => decode cc pc = .ok (i, 2)
  | .sipush _ | .iinc _ _ => decode cc pc = .ok (i, 3)
  | .if_icmp _ off | .ifCond _ off | .goto off | .ifnull off | .ifnonnull off => decode cc pc = .ok (i, 3) ∧ (pc : Int) + off = (x : Int)
  | .tableswitch _ _ _ _ => decode cc pc = .ok (i, x)
  | .ldc k => decode cc pc = .ok (i, 2) ∧ Jvm.Cond.constant own k (Int32.ofInt y) ∈ Ts
  | .ldc2_w k => decode cc pc = .ok (i, 3) ∧ Jvm.Cond.constantLong own k (Int64.ofInt y) ∈ Ts
  | .getfield k => decode cc pc = .ok (i, 3) ∧ 0 ≤ y ∧ ∃ (C : String) (Tf : u_T) (N : Nat) (ty : Nat → FieldType), gFd cl F Ts x y.toNat C Tf N ty ∧ Jvm.Cond.fieldLink own k C (Tf y.toNat).2.1 (Tf y.toNat).2.2.1 ∈ Ts
  | .putfield k => decode cc pc = .ok (i, 3) ∧ 0 ≤ y ∧ ∃ (C : String) (Tf : u_T) (N : Nat) (ty : Nat → FieldType), gFd cl F Ts x y.toNat C Tf N ty ∧ Jvm.Cond.fieldLink own k C (Tf y.toNat).2.1 (Tf y.toNat).2.2.1 ∈ Ts ∧ ((Tf y.toNat).2.2.2 = false ∨ (Tf y.toNat).2.2.2 = true ∧ ini = true ∧ C = own)
  | .new k => decode cc pc = .ok (i, 3) ∧ ∃ (C : String) (Tf : u_T) (N : Nat) (ty : Nat → FieldType), cl[x]? = some (C, Tf, N) ∧ x < 100 ∧ y.toNat = N ∧ (∀ w ∈ u_ws C Tf N, w ∈ Ts) ∧ (∀ j, j < N → parseFieldDescriptor (Tf j).2.2.1 = some (ty j)) ∧ gOb F x N ty ∧ Jvm.Cond.classLink own k C ∈ Ts ∧ Jvm.Cond.instantiable C N ∈ Ts ∧ Jvm.Cond.initialized C ∈ Ts
  | .anewarray k => decode cc pc = .ok (i, 3) ∧ Jvm.Cond.classLink own k E ∈ Ts
  | .aastore => decode cc pc = .ok (i, 1) ∧ ∃ (Tf : u_T) (N : Nat), cl[x]? = some (E, Tf, N) ∧ x < 100
  | .invokestatic k => decode cc pc = .ok (i, 3) ∧ (x = 1001 ∧ Jvm.Cond.methodLink own k arraycopyName ∈ Ts ∧ Jvm.Cond.native arraycopyName ∈ Ts ∧ Jvm.Cond.static arraycopyName ∈ Ts ∧ Jvm.Cond.initialized "java/lang/System" ∈ Ts ∨
      (∃ (nm : MethodName) (bc : ByteArray) (n : Nat), (x = 1002 ∧ nm = Lib.Math.abs.name ∧ bc = Lib.Math.abs.code ∧ n = 1 ∨ x = 1003 ∧ nm = Lib.Math.max.name ∧ bc = Lib.Math.max.code ∧ n = 2 ∨ x = 1004 ∧ nm = Lib.Math.min.name ∧ bc = Lib.Math.min.code ∧ n = 2) ∧ Jvm.Cond.methodLink own k nm ∈ Ts ∧ Jvm.Cond.static nm ∈ Ts ∧ Jvm.Cond.initialized "java/lang/Math" ∈ Ts ∧ Jvm.Cond.code nm bc n (some .int) ∈ Ts) ∨
      x < 1000 ∧ Jvm.Cond.methodLink own k (Yf x) ∈ Ts ∧ Jvm.Cond.static (Yf x) ∈ Ts ∧ Jvm.Cond.initialized (Yf x).cls ∈ Ts ∧ Jvm.Cond.code (Yf x) (Bf x) (T x).2.2.1 (Rf x) ∈ Ts ∧ ((Yf x).cls ≠ "java/lang/invoke/MethodHandle" ∧ (Yf x).cls ≠ "java/lang/invoke/VarHandle") ∧ (parseMethodDescriptor (Yf x).desc).map (fun d => d.parameters.length) = some y.toNat)
  | .invokevirtual k => decode cc pc = .ok (i, 3) ∧ ∃ n : Nat, y = ((n + 1 : Nat) : Int) ∧ Jvm.Cond.methodLink own k (Yf x) ∈ Ts ∧ Jvm.Cond.instanceMethod (Yf x) ∈ Ts ∧ Jvm.Cond.selects (Yf x).cls (Yf x) (Yf x) ∈ Ts ∧ Jvm.Cond.initialized (Yf x).cls ∈ Ts ∧ Jvm.Cond.code (Yf x) (Bf x) (T x).2.2.1 (Rf x) ∈ Ts ∧ ((Yf x).cls ≠ "java/lang/invoke/MethodHandle" ∧ (Yf x).cls ≠ "java/lang/invoke/VarHandle") ∧ (parseMethodDescriptor (Yf x).desc).map (fun d => d.parameters.length) = some n ∧ (T x).1 < 100 ∧ ∃ (Tf : u_T) (N : Nat), cl[(T x).1]? = some ((Yf x).cls, Tf, N)
  | .invokespecial k => decode cc pc = .ok (i, 3) ∧ (x = 1000 ∧ Jvm.Cond.methodLink own k Lib.objectInit ∈ Ts ∧ Jvm.Cond.instanceMethod Lib.objectInit ∈ Ts ∧ Jvm.Cond.code Lib.objectInit ⟨#[0xb1]⟩ 1 none ∈ Ts ∨
      x ≠ 1000 ∧ ∃ n : Nat, y = ((n + 1 : Nat) : Int) ∧ (Jvm.Cond.methodLink own k (Yf x) ∈ Ts ∨ ∃ host, (own, k, Yf x, host) ∈ nests) ∧ Jvm.Cond.instanceMethod (Yf x) ∈ Ts ∧ (Yf x).name = "<init>" ∧ Rf x = none ∧ Jvm.Cond.initialized (Yf x).cls ∈ Ts ∧ Jvm.Cond.code (Yf x) (Bf x) (T x).2.2.1 (Rf x) ∈ Ts ∧ ((Yf x).cls ≠ "java/lang/invoke/MethodHandle" ∧ (Yf x).cls ≠ "java/lang/invoke/VarHandle") ∧ (parseMethodDescriptor (Yf x).desc).map (fun d => d.parameters.length) = some n)
  | _ => decode cc pc = .ok (i, 1)
/-- what a returning row gives -/
def gRt (k : Nat) (i : Instr) (v : Option GV) : Prop := match i, v with
  | .ireturn, some (.inl n) => k = 1 ∨ k = 2 ∧ (n = 0 ∨ n = 1)
  | .lreturn, some (.inr (.inr (.inl _))) => k = 3
  | .areturn, some v => gTr v = true ∧ k = 4
  | .return_, none => k = 0
  | _, _ => False
section GG
variable {p : Program} {l : Launch} {e : Env} {R : Room} {s : State} {m : MethodId} {args : Array Value} {below : List Frame} {meth : Method} {c : Code} {Qf : State → Prop}
variable {D : va_G} {cl : List vw_C} {cA : Nat → ClassId} {a0 : List Nat} {A : Nat → Prop} {b MC MS : Nat} {cc : ByteArray} {E own : String} {Ts : List Jvm.Cond} {F : Nat → List Nat} {T : Nat → GM} {Yf : Nat → MethodName} {Bf : Nat → ByteArray} {Rf : Nat → Option FieldType} {good : List Jvm.Cond} {rm : Nat → Room} {nests : List (String × Nat × MethodName × String)} {call : GCall} {M : GM} {Q : GQ} {NN : Int} {XX : Int → Int} {ini : Bool}
def gWs (T : Nat → GM) (Yf : Nat → MethodName) (Bf : Nat → ByteArray) (Rf : Nat → Option FieldType) (good : List Jvm.Cond) (j : Nat) : List Jvm.Cond := Jvm.Cond.code (Yf j) (Bf j) (T j).2.2.1 (Rf j) :: good
set_option maxHeartbeats 4000000 in
theorem g_sound (hx : p.tables.exec = Jvm.exec) (hb : c.code = cc) (hts : ∀ w ∈ Ts, w.before args s = true) (hown : s.vm.findClass own = some m.cls) (hK : gKx D cl cA E nests s) (hA : ∀ q, s.heap.size ≤ q → A q) (hMC : MC ≤ R.cells) (hMS : MS ≤ R.slots) (hR1 : 1 ≤ R.frames) (hR2 : 40 ≤ R.locals)
    (har : ∀ w ∈ ([.arrayClass .int, .arrayClass .boolean, .arrayClass .char] : List Jvm.Cond), w ∈ Ts) (hgood : ∀ w ∈ good, w ∈ Ts ∧ goodWord w = true)
    (hrm : ∀ j, (rm j).cells = (T j).2.2.2.2.1 ∧ (rm j).slots = (T j).2.2.2.2.2.1 ∧ (rm j).frames + 1 ≤ R.frames ∧ 8 + ((T j).2.2.1 + 11) + (rm j).locals ≤ R.locals)
    (hct : gCt l T Yf (gWs T Yf Bf Rf good) rm D cl cA E nests A b NN XX call)
    (hrow : ∀ pc i x y, gAt M.2.1 pc = some (i, x, y) → gRow T F Yf Bf Rf cl E nests Ts own ini cc pc i x y) (hini : ini = true → meth.name = "<init>")
    (hZ : gZc b NN XX A s)
    (hret : ∀ (i : Instr) (v : Option GV) (w : Option Value) (sh : SH) (μ : MU) (ad : List Nat) (ls : Array Slot) (ws : va_W) (H : Heap) (locs : List Loc) (cells slots pc : Nat), decode cc pc = .ok (i, 1) → gRt M.2.2.2.1 i v → Q v sh μ → gVo ad b v w → gWr cA a0 ad b sh μ ws → va_P D cl ws H → va_D A ws → va_S A s.heap H locs → cells ≤ MC → slots ≤ MS → W p l e R s m args below meth c H locs cells slots Qf (F0 m pc ls w.toList)) :
    ∀ (pc : Nat) (L S : List GV) (sh : SH) (μ : MU) (mc ms : Nat), gG T F call NN XX M Q pc L S sh μ mc ms → gSP p l e R s m args below meth c Qf D cl cA a0 A b MC MS pc L S sh μ mc ms := by
  intro pc L S sh μ mc ms hG
  refine hG (gSP p l e R s m args below meth c Qf D cl cA a0 A b MC MS) fun P0 pc L S sh μ mc ms h0 hs => ?_
  unfold gStep at hs
  cases hat : gAt M.2.1 pc with
  | none => rw [hat] at hs; exact hs.elim
  | some r =>
    obtain ⟨i, x, y⟩ := r
    rw [hat] at hs
    have hr := hrow pc i x y hat
    have hs : gStI T F call NN XX M Q P0 pc L S sh μ mc ms i x y := hs
    have hlk : ∀ {w : Jvm.Cond}, w ∈ Ts → w.before args s = true := fun h => hts _ h
    have callB : ∀ (k j n : Nat) (rr : Option FieldType), Rf j = rr → Jvm.Cond.methodLink own k (Yf j) ∈ Ts → Jvm.Cond.initialized (Yf j).cls ∈ Ts → Jvm.Cond.code (Yf j) (Bf j) (T j).2.2.1 (Rf j) ∈ Ts → ((Yf j).cls ≠ "java/lang/invoke/MethodHandle" ∧ (Yf j).cls ≠ "java/lang/invoke/VarHandle") → (parseMethodDescriptor (Yf j).desc).map (fun d => d.parameters.length) = some n → CallB R s args own k (Yf j) (Bf j) (T j).2.2.1 rr (gWs T Yf Bf Rf good j) (rm j) (T j).2.2.2.2.1 (T j).2.2.2.2.2.1 n := by
      intro k j n rr hrr h1 h2 h3 h4 h5
      subst hrr
      obtain ⟨a1, a2, a3, a4⟩ := hrm j
      refine ⟨a1, a2, a3, a4, pay_in hts (fun w hw => ?_), List.mem_cons_self, hlk h3, hlk h2, h4, fun sig hsig => ?_, hlk h1⟩
      · rcases List.mem_cons.mp hw with rfl | hw
        · exact ⟨h3, Or.inl rfl⟩
        · exact ⟨(hgood w hw).1, good_of_word (hgood w hw).2⟩
      · rw [hsig] at h5; exact (Option.some.inj h5).symm
    cases i with
    | aload_n k => exact s_aload_n hx hb hr h0 hs
    | aload k => exact s_aload hx hb hr h0 hs
    | iload_n k => exact s_iload_n hx hb hr h0 hs
    | iload k => exact s_iload hx hb hr h0 hs
    | lload_n k => exact s_lload_n hx hb hr h0 hs
    | lload k => exact s_lload hx hb hr h0 hs
    | istore_n k => exact s_istore_n hx hb hr h0 hs
    | istore k => exact s_istore hx hb hr h0 hs
    | astore_n k =>
      cases S with
      | nil => exact False.elim hs
      | cons v S => exact s_astore_n hx hb hr h0 hs
    | lstore_n k =>
      change (match (generalizing := false) S with
        | .inr (.inr (.inl a)) :: S' => gSt2 L k (gL a) fun L' => P0 (pc + 1) L' S' sh μ mc ms
        | _ => False) at hs
      split at hs
      · exact s_lstore_n hx hb hr h0 hs
      · exact hs.elim
    | lstore k =>
      change (match (generalizing := false) S with
        | .inr (.inr (.inl a)) :: S' => gSt2 L k (gL a) fun L' => P0 (pc + 2) L' S' sh μ mc ms
        | _ => False) at hs
      split at hs
      · exact s_lstore hx hb hr h0 hs
      · exact hs.elim
    | iinc k n =>
      change (match (generalizing := false) L[k]? with
        | some (.inl a) => gIs (decide (-2147483648 ≤ n) && decide (n < 2147483648)) (gOk (a + n) ∧ gSt L k (gI (a + n)) fun L' => P0 (pc + 3) L' S sh μ mc ms)
        | _ => False) at hs
      split at hs
      · rename_i a ha
        exact s_iinc hx hb hr h0 ha (gIs_t hs).2
      · exact hs.elim
    | iconst n =>
      obtain ⟨h1, h2⟩ := gIs_t hs
      rw [Bool.and_eq_true, decide_eq_true_eq, decide_eq_true_eq] at h1
      exact s_iconst hx hb hr h0 h1 h2
    | bipush n =>
      obtain ⟨h1, h2⟩ := gIs_t hs
      rw [Bool.and_eq_true, decide_eq_true_eq, decide_eq_true_eq] at h1
      exact s_bipush hx hb hr h0 h1.1 h1.2 h2
    | sipush n =>
      obtain ⟨h1, h2⟩ := gIs_t hs
      rw [Bool.and_eq_true, decide_eq_true_eq, decide_eq_true_eq] at h1
      exact s_sipush hx hb hr h0 h1.1 h1.2 h2
    | ldc k =>
      obtain ⟨h1, h2⟩ := gIs_t hs
      rw [Bool.and_eq_true, decide_eq_true_eq, decide_eq_true_eq] at h1
      exact s_ldc hx hb hown (hlk hr.2) hr.1 h0 h1 h2
    | ldc2_w k => exact s_ldc2 hx hb hown (hlk hr.2) hr.1 h0 hs
    | aconst_null => exact s_null hx hb hr h0 hs
    | dup =>
      cases S with
      | nil => exact False.elim hs
      | cons v S => exact s_dup hx hb hr h0 hs
    | dup2 =>
      cases S with
      | nil => exact False.elim hs
      | cons v S =>
        cases S with
        | nil => exact False.elim hs
        | cons u S => exact s_dup2 hx hb hr h0 hs
    | pop =>
      cases S with
      | nil => exact False.elim hs
      | cons v S => exact s_pop hx hb hr h0 hs
    | iadd => exact s_iadd hx hb hr h0 hs
    | isub => exact s_isub hx hb hr h0 hs
    | imul => exact s_imul hx hb hr h0 hs
    | ineg => exact s_ineg hx hb hr h0 hs
    | idiv => exact s_idiv hx hb hr h0 hs
    | irem => exact s_irem hx hb hr h0 hs
    | iand => exact s_iand hx hb hr h0 hs
    | ior => exact s_ior hx hb hr h0 hs
    | ishl => exact s_ishl hx hb hr h0 hs
    | ishr => exact s_ishr hx hb hr h0 hs
    | i2l => exact s_i2l hx hb hr h0 hs
    | i2c => exact s_i2c hx hb hr h0 hs
    | ladd => exact s_ladd hx hb hr h0 hs
    | lmul => exact s_lmul hx hb hr h0 hs
    | lcmp => exact s_lcmp hx hb hr h0 hs
    | if_icmp k off => exact s_icmp hx hb hr.1 hr.2 h0 hs
    | ifCond k off => exact s_if hx hb hr.1 hr.2 h0 hs
    | ifnull off =>
      change (match (generalizing := false) S with
        | .inr (.inl _) :: S' => P0 (pc + 3) L S' sh μ mc ms
        | .inr (.inr (.inr 0)) :: S' => P0 x L S' sh μ mc ms
        | _ => False) at hs
      split at hs
      · exact s_ifnull_r hx hb hr.1 hr.2 h0 hs
      · exact s_ifnull_n hx hb hr.1 hr.2 h0 hs
      · exact hs.elim
    | ifnonnull off =>
      change (match (generalizing := false) S with
        | .inr (.inl _) :: S' => P0 x L S' sh μ mc ms
        | .inr (.inr (.inr 0)) :: S' => P0 (pc + 3) L S' sh μ mc ms
        | _ => False) at hs
      split at hs
      · exact s_ifnonnull_r hx hb hr.1 hr.2 h0 hs
      · exact s_ifnonnull_n hx hb hr.1 hr.2 h0 hs
      · exact hs.elim
    | goto off => exact s_goto hx hb hr.1 hr.2 h0 hs
    | tableswitch d lo hi offs => exact s_table hx hb hr h0 hs
    | getfield k =>
      obtain ⟨h1, h2, C, Tf, N, ty, h3, h4⟩ := hr
      exact s_get hx hb hts hown hK.1 h3 h2 (hlk h4) h1 h0 hs
    | putfield k =>
      obtain ⟨h1, h2, C, Tf, N, ty, h3, h4, h5⟩ := hr
      exact s_put hx hb hts hown hK.1 h3 h2 (hlk h4) (h5.imp id (fun q => ⟨q.1, hini q.2.1, q.2.2⟩)) h1 h0 hs
    | iaload => exact s_iaload hx hb hK.1 (fun _ => hZ) hr h0 hs
    | baload => exact s_baload hx hb hK.1 (fun _ => hZ) hr h0 hs
    | caload => exact s_caload hx hb hK.1 (fun _ => hZ) hr h0 hs
    | aaload => exact s_aaload hx hb hK.1 hr h0 hs
    | arraylength => exact s_alen hx hb hK.1 (fun _ => hZ) hr h0 hs
    | iastore => exact s_iastore hx hb hK.1 hr h0 hs
    | bastore => exact s_bastore hx hb hK.1 hr h0 hs
    | castore => exact s_castore hx hb hK.1 hr h0 hs
    | aastore =>
      obtain ⟨h1, Tf, N, h2, h3⟩ := hr
      exact s_aastore hx hb hK.1 h2 h3 h1 h0 hs
    | newarray t => exact s_newarray hx hb hK.1 hA hMC hMS (fun w hw => hlk (har w hw)) hr h0 hs
    | anewarray k => exact s_anew hx hb hK.1 hA hMC hMS hown (hlk hr.2) hK.2.2 hr.1 h0 hs
    | new k =>
      obtain ⟨h1, C, Tf, N, ty, h2, h3, h4, h5, h6, h7, h8, h9, h10⟩ := hr
      exact s_new hx hb hK.1 hA hMC hMS hts hown h2 h3 h4 h5 h6 h7 (hlk h8) (hlk h9) (hlk h10) h1 h0 hs
    | invokestatic k =>
      obtain ⟨h1, h2⟩ := hr
      rcases h2 with ⟨rfl, h3, h4, h5, h6⟩ | ⟨nm, bc, n, hc, h4, h5, h6, h7⟩ | ⟨hne, h3, h4, h5, h6, h7, h8⟩
      · exact s_copy hx hb hK.1 hown (hlk h3) (hlk h4) (hlk h5) (hlk h6) hR1 hR2 h1 h0 hs
      · rcases hc with ⟨rfl, rfl, rfl, rfl⟩ | ⟨rfl, rfl, rfl, rfl⟩ | ⟨rfl, rfl, rfl, rfl⟩
        · exact s_abs hx hb hown (hlk h4) (hlk h5) (hlk h6) (hlk h7) hMC hMS hR1 hR2 h1 h0 hs
        · exact s_max hx hb hown (hlk h4) (hlk h5) (hlk h6) (hlk h7) hMC hMS hR1 hR2 h1 h0 hs
        · exact s_min hx hb hown (hlk h4) (hlk h5) (hlk h6) (hlk h7) hMC hMS hR1 hR2 h1 h0 hs
      · have hs2 : gInv T call P0 pc L S sh μ mc ms x y.toNat := by
          change (match (generalizing := false) x with
            | 1001 => gCopy P0 pc L S sh μ mc ms
            | 1002 => g1 S fun a S' => gIs (Nat.ble (gWt S') 8) (gOk (-a) ∧ P0 (pc + 3) L (gI (gAbs a) :: S') sh μ mc ms)
            | 1003 => g2 S fun a b S' => gIs (Nat.ble (gWt S') 8) (P0 (pc + 3) L (gI (max a b) :: S') sh μ mc ms)
            | 1004 => g2 S fun a b S' => gIs (Nat.ble (gWt S') 8) (P0 (pc + 3) L (gI (min a b) :: S') sh μ mc ms)
            | _ => gInv T call P0 pc L S sh μ mc ms x y.toNat) at hs
          split at hs
          · omega
          · omega
          · omega
          · omega
          · exact hs
        exact s_static hx hb hct hK hA hZ hMC hMS hts hown ⟨callB k x y.toNat (Rf x) rfl h3 h5 h6 h7 h8, hlk h4⟩ h1 h0 hs2
    | invokevirtual k =>
      obtain ⟨h1, n, rfl, h2, h3, h4, h5, h6, h7, h8, h9, Tf, N, h10⟩ := hr
      exact s_virtual hx hb hct hK hA hZ hMC hMS hts hown ⟨callB k x n (Rf x) rfl h2 h5 h6 h7 h8, hlk h3, hlk h4⟩ h10 h9 h1 h0 hs
    | invokespecial k =>
      obtain ⟨h1, h2⟩ := hr
      have hs : (match (generalizing := false) Nat.beq x 1000 with
        | true => gRf S fun _ S' => gIs (Nat.ble (gWt S') 8) (P0 (pc + 3) L S' sh μ mc ms)
        | false => match S[y.toNat - 1]? with
          | some (.inr (.inl _)) => gIs (Nat.ble 1 y.toNat) (gInv T call P0 pc L S sh μ mc ms x y.toNat)
          | _ => False) := hs
      rcases h2 with ⟨rfl, h3, h4, h5⟩ | ⟨hne, n, rfl, h3, h4, h5, h6, h7, h8, h9, h10⟩
      · exact s_objInit hx hb hown (hlk h3) (hlk h4) (hlk h5) hR1 hR2 h1 h0 hs
      · have hq : Nat.beq x 1000 = false := by
          cases h9 : Nat.beq x 1000 with
          | false => rfl
          | true => exact absurd (Nat.eq_of_beq_eq_true h9) hne
        rw [hq] at hs
        rcases h3 with h3 | ⟨host, h3⟩
        · exact s_special (ret := none) hx hb hct hK hA hZ hMC hMS hts hown ⟨callB k x n none h6 h3 h7 h8 h9 h10, h5, hlk h4⟩ h1 h0 hs
        · obtain ⟨a1, a2, a3, a4⟩ := hrm x
          refine s_specialN (ret := none) (host := host) hx hb hct hK hA hZ hMC hMS hts hown (bytes := Bf x) (n := n) ⟨⟨⟨a1, a2, a3, a4, pay_in hts (fun w hw => ?_), ?_⟩, ?_, hlk h7, h9, fun sig hsig => ?_, va_Nw.use rfl (hK.2.1 _ h3)⟩, h5, hlk h4⟩ h1 h0 hs
          · rcases List.mem_cons.mp hw with rfl | hw
            · exact ⟨h8, Or.inl rfl⟩
            · exact ⟨(hgood w hw).1, good_of_word (hgood w hw).2⟩
          · rw [← h6]; exact List.mem_cons_self
          · rw [← h6]; exact hlk h8
          · rw [hsig] at h10; exact (Option.some.inj h10).symm
    | ireturn =>
      change (match (generalizing := false) S, M.2.2.2.1 with
        | [.inl a], 1 => Q (some (gI a)) sh μ
        | [.inl a], 2 => (a = 0 ∨ a = 1) ∧ Q (some (gI a)) sh μ
        | _, _ => False) at hs
      split at hs
      · rename_i a hk hz
        intro ad ls st ws H locs cells slots hnl hL hS hW hP hD hSf hc1 hc2
        obtain ⟨st, rfl, ok, hS2⟩ := hS.i1
        rw [hS2.nil]
        exact hret .ireturn (some (gI a)) (some (.int (Int32.ofInt a))) sh μ ad ls ws H locs cells slots pc hr (Or.inl hk) hs (show gVo ad b (some (gI a)) (some (.int (Int32.ofInt a))) from gVr.mkI (ad := ad) (b := b) ok) hW hP hD hSf (by omega) (by omega)
      · rename_i a hk hz
        intro ad ls st ws H locs cells slots hnl hL hS hW hP hD hSf hc1 hc2
        obtain ⟨st, rfl, ok, hS2⟩ := hS.i1
        rw [hS2.nil]
        exact hret .ireturn (some (gI a)) (some (.int (Int32.ofInt a))) sh μ ad ls ws H locs cells slots pc hr (Or.inr ⟨hk, hs.1⟩) hs.2 (show gVo ad b (some (gI a)) (some (.int (Int32.ofInt a))) from gVr.mkI (ad := ad) (b := b) ok) hW hP hD hSf (by omega) (by omega)
      · exact hs.elim
    | lreturn =>
      change (match (generalizing := false) S, M.2.2.2.1 with
        | [.inr (.inr (.inl a))], 3 => Q (some (gL a)) sh μ
        | _, _ => False) at hs
      split at hs
      · rename_i a hk hz
        intro ad ls st ws H locs cells slots hnl hL hS hW hP hD hSf hc1 hc2
        obtain ⟨st, rfl, hS2⟩ := hS.l1
        rw [hS2.nil]
        exact hret .lreturn (some (gL a)) (some (.long (Int64.ofInt a))) sh μ ad ls ws H locs cells slots pc hr hk hs (show gVo ad b (some (gL a)) (some (.long (Int64.ofInt a))) from gVr.mkL (ad := ad) (b := b)) hW hP hD hSf (by omega) (by omega)
      · exact hs.elim
    | areturn =>
      change (match (generalizing := false) S, M.2.2.2.1 with
        | [v], 4 => gIs (gTr v) (Q (some v) sh μ)
        | _, _ => False) at hs
      split at hs
      · rename_i v hk hz
        intro ad ls st ws H locs cells slots hnl hL hS hW hP hD hSf hc1 hc2
        obtain ⟨ht, hs⟩ := gIs_t hs
        obtain ⟨w, st, rfl, hw, hS2⟩ := hS.c1
        rw [hS2.nil]
        exact hret .areturn (some v) (some w) sh μ ad ls ws H locs cells slots pc hr ⟨ht, hk⟩ hs hw hW hP hD hSf (by omega) (by omega)
      · exact hs.elim
    | return_ =>
      change (match (generalizing := false) S, M.2.2.2.1 with
        | [], 0 => Q none sh μ
        | _, _ => False) at hs
      split at hs
      · rename_i hk hz
        intro ad ls st ws H locs cells slots hnl hL hS hW hP hD hSf hc1 hc2
        rw [hS.nil]
        exact hret .return_ none none sh μ ad ls ws H locs cells slots pc hr hk hs trivial hW hP hD hSf (by omega) (by omega)
      · exact hs.elim
    | _ => exact False.elim hs
end GG
end
section
/-! ===== every method's contract, by the depth of its calls ===== -/
theorem vc_i (x : Int32) : ¬ (Value.int x).category = 2 := fun q => absurd (show (1 : Nat) = 2 from q) (by decide)
theorem vc_r (x : Nat) : ¬ (Value.ref x).category = 2 := fun q => absurd (show (1 : Nat) = 2 from q) (by decide)
theorem vc_n : ¬ Value.null.category = 2 := fun q => absurd (show (1 : Nat) = 2 from q) (by decide)
theorem vc_l (x : Int64) : (Value.long x).category = 2 := rfl
theorem gArgs_len {ad : List Nat} {b : Nat} : ∀ {as : List GV} {st : List Value}, gSr ad b as st → (lg_sl st).length = (gArgs as).length
  | [], [], _ => rfl
  | v :: as, w :: st, h => by
    have ih := gArgs_len h.2
    have hc : lg_sl (w :: st) = (if w.category = 2 then [.val w, .second] else [.val w]) ++ lg_sl st := rfl
    rw [hc, List.length_append, ih]
    have hv := h.1
    rcases v with n | k | n | k
    · rw [hv.1, if_neg (vc_i _)]; show 1 + _ = _ + 1; omega
    · obtain ⟨a, -, rfl⟩ := hv; rw [if_neg (vc_r _)]; show 1 + _ = _ + 1; omega
    · rw [show w = .long (Int64.ofInt n) from hv, if_pos (vc_l _)]; show 2 + _ = _ + 1 + 1; omega
    · match k, hv with
      | 0, hv => rw [show w = .null from hv, if_neg vc_n]; show 1 + _ = _ + 1; omega
      | 1, hv => rw [show w = .ref b from hv, if_neg (vc_r _)]; show 1 + _ = _ + 1; omega
theorem gArgs_at {ad : List Nat} {b : Nat} : ∀ {as : List GV} {st : List Value}, gSr ad b as st → ∀ (j i : Nat) (v : GV), (gArgs as)[i]? = some v → gHv v = true → ∃ w, (j + i, w) ∈ lv_args j st ∧ gVr ad b v w
  | [], [], _, j, i, v, hv, _ => by simp [gArgs] at hv
  | u :: as, w :: st, h, j, i, v, hv, hh => by
    have hu := h.1
    have one : w.category ≠ 2 → (i = 0 → v = u) → (∀ n, i = n + 1 → (gArgs as)[n]? = some v) → ∃ w', (j + i, w') ∈ lv_args j (w :: st) ∧ gVr ad b v w' := by
      intro hc h0 h1
      cases i with
      | zero => rw [h0 rfl]; exact ⟨w, List.mem_cons_self, hu⟩
      | succ n =>
        obtain ⟨w', hm, hr⟩ := gArgs_at h.2 (j + 1) n v (h1 n rfl) hh
        refine ⟨w', List.mem_cons_of_mem _ ?_, hr⟩
        rw [if_neg hc, show j + (n + 1) = j + 1 + n by omega]
        exact hm
    rcases u with n | k | n | k
    · refine one (by rw [hu.1]; exact vc_i _) (fun hi => ?_) (fun n hi => ?_)
      · subst hi; simpa [gArgs] using hv.symm
      · subst hi; simpa [gArgs] using hv
    · refine one (by obtain ⟨a, -, rfl⟩ := hu; exact vc_r _) (fun hi => ?_) (fun n hi => ?_)
      · subst hi; simpa [gArgs] using hv.symm
      · subst hi; simpa [gArgs] using hv
    · have hw : w = .long (Int64.ofInt n) := hu
      subst hw
      cases i with
      | zero =>
        have : v = gL n := by simpa [gArgs] using hv.symm
        subst this
        exact ⟨_, List.mem_cons_self, rfl⟩
      | succ i =>
        cases i with
        | zero =>
          have : v = gN 2 := by simpa [gArgs] using hv.symm
          subst this
          cases hh
        | succ i =>
          obtain ⟨w', hm, hr⟩ := gArgs_at h.2 (j + 2) i v (by simpa [gArgs] using hv) hh
          refine ⟨w', List.mem_cons_of_mem _ ?_, hr⟩
          rw [if_pos (vc_l _), show j + (i + 1 + 1) = j + 2 + i by omega]
          exact hm
    · refine one (by match k, hu with
        | 0, hu => rw [show w = .null from hu]; exact vc_n
        | 1, hu => rw [show w = .ref b from hu]; exact vc_r _) (fun hi => ?_) (fun n hi => ?_)
      · subst hi; simpa [gArgs] using hv.symm
      · subst hi; simpa [gArgs] using hv
theorem gLr.entry {ad : List Nat} {b : Nat} {as : List GV} {st : List Value} (h : gSr ad b as st) {n : Nat} (hn : (gArgs as).length ≤ n) : gLr ad b (gIn n as) ((lg_sl st ++ List.replicate (n - (lg_sl st).length) Slot.unset).toArray) := by
  have hl := gArgs_len h
  have he := lv_entry st (n := n) (by rw [hl]; exact hn)
  have hlen : (gIn n as).length = n := by unfold gIn; rw [List.length_append, List.length_replicate]; omega
  refine ⟨_, by rw [hlen]; exact he, fun i v hv hh => ?_⟩
  unfold gIn at hv
  by_cases hi : i < (gArgs as).length
  · rw [List.getElem?_append_left hi] at hv
    obtain ⟨w, h1, h2⟩ := gArgs_at h 0 i v hv hh
    rw [Nat.zero_add] at h1
    exact ⟨w, h1, h2⟩
  · rw [List.getElem?_append_right (by omega)] at hv
    obtain ⟨h1, h2⟩ := List.getElem?_eq_some_iff.mp hv
    rw [List.getElem_replicate] at h2
    subst h2
    cases hh
/-- which answer a method of a kind gives -/
def gRk (k : Nat) (r : Option FieldType) : Prop := match k with
  | 0 => r = none
  | 1 => r = some .int
  | 2 => r = some .boolean
  | 3 => r = some .long
  | 4 => (∃ n, r = some (.object n)) ∨ ∃ t, r = some (.array t)
  | _ => False
section GK
variable {p : Program} {l : Launch} {e : Env} {s : State} {m : MethodId} {args : Array Value} {below : List Frame} {meth : Method} {c : Code}
variable {D : va_G} {cl : List vw_C} {cA : Nat → ClassId} {A : Nat → Prop} {b : Nat} {E : String} {F : Nat → List Nat} {T : Nat → GM} {Yf : Nat → MethodName} {Bf : Nat → ByteArray} {Rf : Nat → Option FieldType} {good : List Jvm.Cond} {nests : List (String × Nat × MethodName × String)}
def gRm (T : Nat → GM) (d j : Nat) : Room := { frames := d + 1, cells := (T j).2.2.2.2.1, slots := (T j).2.2.2.2.2.1, locals := 64 * d + 100 }
/-- what the tables must say of a method -/
def gMok (T : Nat → GM) (F : Nat → List Nat) (Yf : Nat → MethodName) (Bf : Nat → ByteArray) (Rf : Nat → Option FieldType) (cl : List vw_C) (E : String) (nests : List (String × Nat × MethodName × String)) (good : List Jvm.Cond) (j : Nat) : Prop :=
  plainName (Yf j).cls = true ∧ gRk (T j).2.2.2.1 (Rf j) ∧ ∀ pc i x y, gAt (T j).2.1 pc = some (i, x, y) → gRow T F Yf Bf Rf cl E nests good (Yf j).cls (decide ((Yf j).name = "<init>")) (Bf j) pc i x y
theorem gG_nil {call : GCall} {N : Int} {X : Int → Int} {M : GM} {Q : GQ} {pc : Nat} {L S : List GV} {sh : SH} {μ : MU} {mc ms : Nat} (hM : M.2.1 = []) (h : gG T F call N X M Q pc L S sh μ mc ms) : False := by
  refine h (fun _ _ _ _ _ _ _ => False) fun P0 pc L S sh μ mc ms _ hs => ?_
  unfold gStep at hs
  rw [hM] at hs
  exact hs
theorem gPost.mk {ad0 ad : List Nat} {Q : GQ} {v : Option GV} {w : Option Value} {sh : SH} {μ : MU} {ws : va_W} {H : Heap} {locs : List Loc} {u t : State} (hq : Q v sh μ) (hv : gVo ad b v w) (hW : gWr cA ad0 ad b sh μ ws) (hP : va_P D cl ws H) (hD : va_D A ws) (hS : va_S A u.heap H locs) (ht : t.heap = H) : gPost D cl cA A b ad0 Q args u (.returned w) t :=
  ⟨⟨v, sh, μ, ad, ws, w, rfl, hv, hq, hW, by rw [ht]; exact hP, hD⟩, hS.F ht⟩
set_option maxHeartbeats 4000000 in
theorem g_contract {NN : Int} {XX : Int → Int} (har : ∀ w ∈ ([.arrayClass .int, .arrayClass .boolean, .arrayClass .char] : List Jvm.Cond), w ∈ good) (hgood : ∀ w ∈ good, goodWord w = true) (hml : ∀ j, (T j).2.2.1 ≤ 45) (hall : ∀ j, gMok T F Yf Bf Rf cl E nests good j ∨ (T j).2.1 = []) :
    ∀ d, gCt l T Yf (gWs T Yf Bf Rf good) (gRm T d) D cl cA E nests A b NN XX (gCall T F NN XX d) := by
  intro d
  induction d with
  | zero => intro j as sh μ Q h; exact h.elim
  | succ d ih =>
    intro j as sh μ Q h ad ws st hst hWr
    obtain ⟨hq, hG⟩ := gIs_t h
    have hlen := Nat.le_of_ble_eq_true hq
    obtain ⟨hpl, hrk, hrow⟩ : gMok T F Yf Bf Rf cl E nests good j := (hall j).elim id (fun hM => (gG_nil hM hG).elim)
    refine Met.ofW (cc := Bf j) (maxL := (T j).2.2.1) (ret := Rf j) hpl rfl ?_
    intro p e s m args below meth c s₁ B hmaxl hv
    obtain ⟨rfl, hP, hD, hK, hA, hZ⟩ := hv
    have hx := B.exec
    have hb := B.bytes
    have hr := B.returns
    have hts0 := atoms_spec (ws := gWs T Yf Bf Rf good j) B.pre
    have hts : ∀ w ∈ good, w.before st.toArray s = true := fun w hw => hts0 w (List.mem_cons_of_mem _ hw)
    have hown : s.vm.findClass (Yf j).cls = some m.cls := findClass_of_methodNamed B.named
    have hlocks := B.notSynchronized
    have hnm : meth.name = (Yf j).name := (name_of_methodNamed B.named B.method).1
    rw [lg_entry_eq]
    have hS : va_S A s.heap s.heap [] := va_S.rf
    have hL := gLr.entry hst hlen
    have hgl : (gIn (T j).2.2.1 as).length = (T j).2.2.1 := by unfold gIn; rw [List.length_append, List.length_replicate]; omega
    refine g_sound (Q := Q) (M := T j) (T := T) (F := F) (Yf := Yf) (Bf := Bf) (Rf := Rf) (good := good) (rm := gRm T d) (a0 := ad) (MC := (T j).2.2.2.2.1) (MS := (T j).2.2.2.2.2.1) (R := gRm T (d + 1) j) (ini := decide ((Yf j).name = "<init>")) hx hb hts hown hK hA (Nat.le_refl _) (Nat.le_refl _) (show 1 ≤ d + 1 + 1 by omega) (show 40 ≤ 64 * (d + 1) + 100 by omega) har (fun w hw => ⟨hw, hgood w hw⟩) (fun j' => ⟨rfl, rfl, Nat.le_refl _, ?_⟩) ih hrow (fun hi => by rw [hnm]; exact of_decide_eq_true hi) hZ ?_ 0 _ [] sh μ _ _ hG ad _ [] ws s.heap [] 0 0 (hmaxl.trans hgl.symm) hL trivial hWr hP hD hS (by omega) (by omega)
    · have := hml j'
      show 8 + ((T j').2.2.1 + 11) + (64 * d + 100) ≤ 64 * (d + 1) + 100
      omega
    · intro i v w sh' μ' ad' ls' ws' H' locs' cells' slots' pc' hdg hrt hQ hvo hW' hP' hD' hS' hc1 hc2
      refine W.widen hc1 hc2 ?_
      have hf : ∀ q ∈ locs', A q.base := hS'.2.2
      cases i with
      | ireturn =>
        cases v with
        | none => exact False.elim hrt
        | some v =>
          cases w with
          | none => exact False.elim hvo
          | some w =>
            rcases v with n | k | n | k
            · have hvo2 : w = .int (Int32.ofInt n) ∧ gOk n := hvo
              rw [hvo2.1] at hvo ⊢
              rcases hrt with hk | ⟨hk, hn⟩
              · rw [hk] at hrk
                exact W.iret hx hb (by rw [hr]; exact hrk) (fun t ht _ => gPost.mk hQ hvo hW' hP' hD' hS' ht) hf hdg hlocks
              · rw [hk] at hrk
                exact W.zret (ty := .boolean) hx hb (by rw [hr]; exact hrk) (by rcases hn with rfl | rfl <;> rfl) (fun t ht _ => gPost.mk hQ hvo hW' hP' hD' hS' ht) hf hdg hlocks
            · exact False.elim hrt
            · exact False.elim hrt
            · exact False.elim hrt
      | lreturn =>
        cases v with
        | none => exact False.elim hrt
        | some v =>
          cases w with
          | none => exact False.elim hvo
          | some w =>
            rcases v with n | k | n | k
            · exact False.elim hrt
            · exact False.elim hrt
            · have hw : w = .long (Int64.ofInt n) := hvo
              subst hw
              have hk : (T j).2.2.2.1 = 3 := hrt
              rw [hk] at hrk
              exact W.lret hx hb (by rw [hr]; exact hrk) (fun t ht _ => gPost.mk hQ hvo hW' hP' hD' hS' ht) hf hdg hlocks
            · exact False.elim hrt
      | areturn =>
        cases v with
        | none => exact False.elim hrt
        | some v =>
          cases w with
          | none => exact False.elim hvo
          | some w =>
            have hrt : gTr v = true ∧ (T j).2.2.2.1 = 4 := hrt
            have hk := hrt.2
            rw [hk] at hrk
            have hw : w = .null ∨ ∃ a, w = .ref a := gTr_of hrt.1 hvo
            rcases hrk with ⟨n, h1⟩ | ⟨n, h1⟩
            · exact W.aret hx hb (by rw [hr]; exact h1) (Or.inl ⟨n, rfl⟩) hw (fun t ht _ => gPost.mk hQ hvo hW' hP' hD' hS' ht) hf hdg hlocks
            · exact W.aret hx hb (by rw [hr]; exact h1) (Or.inr ⟨n, rfl⟩) hw (fun t ht _ => gPost.mk hQ hvo hW' hP' hD' hS' ht) hf hdg hlocks
      | return_ =>
        cases v with
        | some v => exact False.elim hrt
        | none =>
          cases w with
          | some w => exact False.elim hvo
          | none =>
            have hk : (T j).2.2.2.1 = 0 := hrt
            rw [hk] at hrk
            exact W.vret hx hb (by rw [hr]; exact hrk) (fun t ht _ => gPost.mk hQ hvo hW' hP' hD' hS' ht) hf hdg hlocks
      | _ => exact False.elim hrt
end GK
end
section
-- ===== PART A: goes FIRST, ahead of the names: the tables' words, and 'selects' of the private methods out of them =====
/-- a private method of a class that the tables say can be made, by its rows of tables_1 -/
def lw_okq (q : MethodName × Nat) : Prop := (q.1.cls ≠ "java/lang/invoke/MethodHandle" ∧ q.1.cls ≠ "java/lang/invoke/VarHandle") ∧ Cond.instantiable q.1.cls q.2 ∈ tables_1 ∧ Cond.privateMethod q.1 ∈ tables_1 ∧ Cond.instanceMethod q.1 ∈ tables_1
theorem lw_p0 : lw_okq (⟨"LayeredDrawing", "graphChanged", "()V"⟩, 7) := ⟨⟨by decide +kernel, by decide +kernel⟩, List.mem_of_getElem? (i := 12) (by decide +kernel), List.mem_of_getElem? (i := 315) (by decide +kernel), List.mem_of_getElem? (i := 316) (by decide +kernel)⟩
theorem lw_p1 : lw_okq (⟨"LayeredDrawing$Layering", "findDirections", "()V"⟩, 11) := ⟨⟨by decide +kernel, by decide +kernel⟩, List.mem_of_getElem? (i := 77) (by decide +kernel), List.mem_of_getElem? (i := 323) (by decide +kernel), List.mem_of_getElem? (i := 324) (by decide +kernel)⟩
theorem lw_p2 : lw_okq (⟨"LayeredDrawing$Layering", "findLayers", "()V"⟩, 11) := ⟨⟨by decide +kernel, by decide +kernel⟩, List.mem_of_getElem? (i := 77) (by decide +kernel), List.mem_of_getElem? (i := 333) (by decide +kernel), List.mem_of_getElem? (i := 334) (by decide +kernel)⟩
theorem lw_p3 : lw_okq (⟨"LayeredDrawing$Layering", "pushDown", "()I"⟩, 11) := ⟨⟨by decide +kernel, by decide +kernel⟩, List.mem_of_getElem? (i := 77) (by decide +kernel), List.mem_of_getElem? (i := 337) (by decide +kernel), List.mem_of_getElem? (i := 338) (by decide +kernel)⟩
theorem lw_p4 : lw_okq (⟨"LayeredDrawing$Layering", "pushOnce", "()I"⟩, 11) := ⟨⟨by decide +kernel, by decide +kernel⟩, List.mem_of_getElem? (i := 77) (by decide +kernel), List.mem_of_getElem? (i := 341) (by decide +kernel), List.mem_of_getElem? (i := 342) (by decide +kernel)⟩
theorem lw_p5 : lw_okq (⟨"LayeredDrawing$Layering", "betterFlow", "(I)Z"⟩, 11) := ⟨⟨by decide +kernel, by decide +kernel⟩, List.mem_of_getElem? (i := 77) (by decide +kernel), List.mem_of_getElem? (i := 345) (by decide +kernel), List.mem_of_getElem? (i := 346) (by decide +kernel)⟩
theorem lw_p6 : lw_okq (⟨"LayeredDrawing$Layering", "pusherOf", "(I)I"⟩, 11) := ⟨⟨by decide +kernel, by decide +kernel⟩, List.mem_of_getElem? (i := 77) (by decide +kernel), List.mem_of_getElem? (i := 349) (by decide +kernel), List.mem_of_getElem? (i := 350) (by decide +kernel)⟩
theorem lw_p7 : lw_okq (⟨"LayeredDrawing$Layering", "flowOfCycle", "(I)I"⟩, 11) := ⟨⟨by decide +kernel, by decide +kernel⟩, List.mem_of_getElem? (i := 77) (by decide +kernel), List.mem_of_getElem? (i := 353) (by decide +kernel), List.mem_of_getElem? (i := 354) (by decide +kernel)⟩
theorem lw_p8 : lw_okq (⟨"LayeredDrawing$Layering", "moveFlow", "(II)V"⟩, 11) := ⟨⟨by decide +kernel, by decide +kernel⟩, List.mem_of_getElem? (i := 77) (by decide +kernel), List.mem_of_getElem? (i := 361) (by decide +kernel), List.mem_of_getElem? (i := 362) (by decide +kernel)⟩
theorem lw_p9 : lw_okq (⟨"LayeredDrawing", "isNode", "(I)Z"⟩, 7) := ⟨⟨by decide +kernel, by decide +kernel⟩, List.mem_of_getElem? (i := 12) (by decide +kernel), List.mem_of_getElem? (i := 372) (by decide +kernel), List.mem_of_getElem? (i := 373) (by decide +kernel)⟩
theorem lw_p10 : lw_okq (⟨"LayeredDrawing$Order", "putVertex", "(II)V"⟩, 16) := ⟨⟨by decide +kernel, by decide +kernel⟩, List.mem_of_getElem? (i := 131) (by decide +kernel), List.mem_of_getElem? (i := 400) (by decide +kernel), List.mem_of_getElem? (i := 401) (by decide +kernel)⟩
theorem lw_p11 : lw_okq (⟨"LayeredDrawing$Order", "orderByNames", "()V"⟩, 16) := ⟨⟨by decide +kernel, by decide +kernel⟩, List.mem_of_getElem? (i := 131) (by decide +kernel), List.mem_of_getElem? (i := 404) (by decide +kernel), List.mem_of_getElem? (i := 405) (by decide +kernel)⟩
theorem lw_p12 : lw_okq (⟨"LayeredDrawing$Order", "closeGroups", "(I)V"⟩, 16) := ⟨⟨by decide +kernel, by decide +kernel⟩, List.mem_of_getElem? (i := 131) (by decide +kernel), List.mem_of_getElem? (i := 408) (by decide +kernel), List.mem_of_getElem? (i := 409) (by decide +kernel)⟩
theorem lw_p13 : lw_okq (⟨"LayeredDrawing$Order", "putGroup", "(IIII)I"⟩, 16) := ⟨⟨by decide +kernel, by decide +kernel⟩, List.mem_of_getElem? (i := 131) (by decide +kernel), List.mem_of_getElem? (i := 416) (by decide +kernel), List.mem_of_getElem? (i := 417) (by decide +kernel)⟩
theorem lw_p14 : lw_okq (⟨"LayeredDrawing$Order", "setPlaces", "(I)V"⟩, 16) := ⟨⟨by decide +kernel, by decide +kernel⟩, List.mem_of_getElem? (i := 131) (by decide +kernel), List.mem_of_getElem? (i := 427) (by decide +kernel), List.mem_of_getElem? (i := 428) (by decide +kernel)⟩
theorem lw_p15 : lw_okq (⟨"LayeredDrawing$Order", "spotOf", "(II)I"⟩, 16) := ⟨⟨by decide +kernel, by decide +kernel⟩, List.mem_of_getElem? (i := 131) (by decide +kernel), List.mem_of_getElem? (i := 455) (by decide +kernel), List.mem_of_getElem? (i := 456) (by decide +kernel)⟩
def lw_privs_1 : List (MethodName × Nat) := [(⟨"LayeredDrawing", "graphChanged", "()V"⟩, 7), (⟨"LayeredDrawing$Layering", "findDirections", "()V"⟩, 11), (⟨"LayeredDrawing$Layering", "findLayers", "()V"⟩, 11), (⟨"LayeredDrawing$Layering", "pushDown", "()I"⟩, 11), (⟨"LayeredDrawing$Layering", "pushOnce", "()I"⟩, 11), (⟨"LayeredDrawing$Layering", "betterFlow", "(I)Z"⟩, 11), (⟨"LayeredDrawing$Layering", "pusherOf", "(I)I"⟩, 11), (⟨"LayeredDrawing$Layering", "flowOfCycle", "(I)I"⟩, 11), (⟨"LayeredDrawing$Layering", "moveFlow", "(II)V"⟩, 11), (⟨"LayeredDrawing", "isNode", "(I)Z"⟩, 7), (⟨"LayeredDrawing$Order", "putVertex", "(II)V"⟩, 16), (⟨"LayeredDrawing$Order", "orderByNames", "()V"⟩, 16), (⟨"LayeredDrawing$Order", "closeGroups", "(I)V"⟩, 16), (⟨"LayeredDrawing$Order", "putGroup", "(IIII)I"⟩, 16), (⟨"LayeredDrawing$Order", "setPlaces", "(I)V"⟩, 16), (⟨"LayeredDrawing$Order", "spotOf", "(II)I"⟩, 16)]
theorem lw_r1 : ∀ q ∈ lw_privs_1, lw_okq q := List.forall_mem_cons.mpr ⟨lw_p0, List.forall_mem_cons.mpr ⟨lw_p1, List.forall_mem_cons.mpr ⟨lw_p2, List.forall_mem_cons.mpr ⟨lw_p3, List.forall_mem_cons.mpr ⟨lw_p4, List.forall_mem_cons.mpr ⟨lw_p5, List.forall_mem_cons.mpr ⟨lw_p6, List.forall_mem_cons.mpr ⟨lw_p7, List.forall_mem_cons.mpr ⟨lw_p8, List.forall_mem_cons.mpr ⟨lw_p9, List.forall_mem_cons.mpr ⟨lw_p10, List.forall_mem_cons.mpr ⟨lw_p11, List.forall_mem_cons.mpr ⟨lw_p12, List.forall_mem_cons.mpr ⟨lw_p13, List.forall_mem_cons.mpr ⟨lw_p14, List.forall_mem_cons.mpr ⟨lw_p15, fun _ h => absurd h List.not_mem_nil⟩⟩⟩⟩⟩⟩⟩⟩⟩⟩⟩⟩⟩⟩⟩⟩
theorem lw_p16 : lw_okq (⟨"LayeredDrawing$Order", "orderByWeights", "(II)V"⟩, 16) := ⟨⟨by decide +kernel, by decide +kernel⟩, List.mem_of_getElem? (i := 131) (by decide +kernel), List.mem_of_getElem? (i := 483) (by decide +kernel), List.mem_of_getElem? (i := 484) (by decide +kernel)⟩
theorem lw_p17 : lw_okq (⟨"LayeredDrawing$Order", "weigh", "(II)V"⟩, 16) := ⟨⟨by decide +kernel, by decide +kernel⟩, List.mem_of_getElem? (i := 131) (by decide +kernel), List.mem_of_getElem? (i := 487) (by decide +kernel), List.mem_of_getElem? (i := 488) (by decide +kernel)⟩
theorem lw_p18 : lw_okq (⟨"LayeredDrawing$Order", "isLighter", "(II)Z"⟩, 16) := ⟨⟨by decide +kernel, by decide +kernel⟩, List.mem_of_getElem? (i := 131) (by decide +kernel), List.mem_of_getElem? (i := 492) (by decide +kernel), List.mem_of_getElem? (i := 493) (by decide +kernel)⟩
theorem lw_p19 : lw_okq (⟨"LayeredDrawing", "packIfReordered", "()V"⟩, 7) := ⟨⟨by decide +kernel, by decide +kernel⟩, List.mem_of_getElem? (i := 12) (by decide +kernel), List.mem_of_getElem? (i := 496) (by decide +kernel), List.mem_of_getElem? (i := 497) (by decide +kernel)⟩
theorem lw_p20 : lw_okq (⟨"LayeredDrawing$Order", "moveTo", "(II)V"⟩, 16) := ⟨⟨by decide +kernel, by decide +kernel⟩, List.mem_of_getElem? (i := 131) (by decide +kernel), List.mem_of_getElem? (i := 517) (by decide +kernel), List.mem_of_getElem? (i := 518) (by decide +kernel)⟩
theorem lw_p21 : lw_okq (⟨"LayeredDrawing$Coordinates", "desiredLeft", "(II)I"⟩, 5) := ⟨⟨by decide +kernel, by decide +kernel⟩, List.mem_of_getElem? (i := 193) (by decide +kernel), List.mem_of_getElem? (i := 553) (by decide +kernel), List.mem_of_getElem? (i := 554) (by decide +kernel)⟩
theorem lw_p22 : lw_okq (⟨"LayeredDrawing$Coordinates", "putSorted", "(II)V"⟩, 5) := ⟨⟨by decide +kernel, by decide +kernel⟩, List.mem_of_getElem? (i := 193) (by decide +kernel), List.mem_of_getElem? (i := 559) (by decide +kernel), List.mem_of_getElem? (i := 560) (by decide +kernel)⟩
theorem lw_p23 : lw_okq (⟨"LayeredDrawing", "slotNumbered", "(I)LLayeredDrawing$Slot;"⟩, 7) := ⟨⟨by decide +kernel, by decide +kernel⟩, List.mem_of_getElem? (i := 12) (by decide +kernel), List.mem_of_getElem? (i := 581) (by decide +kernel), List.mem_of_getElem? (i := 582) (by decide +kernel)⟩
theorem lw_p24 : lw_okq (⟨"LayeredDrawing", "withDrawing", "(J)J"⟩, 7) := ⟨⟨by decide +kernel, by decide +kernel⟩, List.mem_of_getElem? (i := 12) (by decide +kernel), List.mem_of_getElem? (i := 603) (by decide +kernel), List.mem_of_getElem? (i := 604) (by decide +kernel)⟩
theorem lw_p25 : lw_okq (⟨"LayeredDrawing$Coordinates", "shift", "(II)I"⟩, 5) := ⟨⟨by decide +kernel, by decide +kernel⟩, List.mem_of_getElem? (i := 193) (by decide +kernel), List.mem_of_getElem? (i := 611) (by decide +kernel), List.mem_of_getElem? (i := 612) (by decide +kernel)⟩
theorem lw_p26 : lw_okq (⟨"LayeredDrawing", "isEdge", "(I)Z"⟩, 7) := ⟨⟨by decide +kernel, by decide +kernel⟩, List.mem_of_getElem? (i := 12) (by decide +kernel), List.mem_of_getElem? (i := 652) (by decide +kernel), List.mem_of_getElem? (i := 653) (by decide +kernel)⟩
theorem lw_p27 : lw_okq (⟨"LayeredDrawing", "isLayer", "(I)Z"⟩, 7) := ⟨⟨by decide +kernel, by decide +kernel⟩, List.mem_of_getElem? (i := 12) (by decide +kernel), List.mem_of_getElem? (i := 672) (by decide +kernel), List.mem_of_getElem? (i := 673) (by decide +kernel)⟩
theorem lw_p28 : lw_okq (⟨"LayeredDrawing$Coordinates", "sideOfNode", "(II)I"⟩, 5) := ⟨⟨by decide +kernel, by decide +kernel⟩, List.mem_of_getElem? (i := 193) (by decide +kernel), List.mem_of_getElem? (i := 758) (by decide +kernel), List.mem_of_getElem? (i := 759) (by decide +kernel)⟩
theorem lw_p29 : lw_okq (⟨"LayeredDrawing$Text", "readNumber", "(II)I"⟩, 9) := ⟨⟨by decide +kernel, by decide +kernel⟩, List.mem_of_getElem? (i := 216) (by decide +kernel), List.mem_of_getElem? (i := 804) (by decide +kernel), List.mem_of_getElem? (i := 805) (by decide +kernel)⟩
theorem lw_p30 : lw_okq (⟨"LayeredDrawing$Text", "readDigit", "(CC)I"⟩, 9) := ⟨⟨by decide +kernel, by decide +kernel⟩, List.mem_of_getElem? (i := 216) (by decide +kernel), List.mem_of_getElem? (i := 808) (by decide +kernel), List.mem_of_getElem? (i := 809) (by decide +kernel)⟩
theorem lw_p31 : lw_okq (⟨"LayeredDrawing$Text", "readOption", "(CCCI)I"⟩, 9) := ⟨⟨by decide +kernel, by decide +kernel⟩, List.mem_of_getElem? (i := 216) (by decide +kernel), List.mem_of_getElem? (i := 812) (by decide +kernel), List.mem_of_getElem? (i := 813) (by decide +kernel)⟩
def lw_privs_2 : List (MethodName × Nat) := [(⟨"LayeredDrawing$Order", "orderByWeights", "(II)V"⟩, 16), (⟨"LayeredDrawing$Order", "weigh", "(II)V"⟩, 16), (⟨"LayeredDrawing$Order", "isLighter", "(II)Z"⟩, 16), (⟨"LayeredDrawing", "packIfReordered", "()V"⟩, 7), (⟨"LayeredDrawing$Order", "moveTo", "(II)V"⟩, 16), (⟨"LayeredDrawing$Coordinates", "desiredLeft", "(II)I"⟩, 5), (⟨"LayeredDrawing$Coordinates", "putSorted", "(II)V"⟩, 5), (⟨"LayeredDrawing", "slotNumbered", "(I)LLayeredDrawing$Slot;"⟩, 7), (⟨"LayeredDrawing", "withDrawing", "(J)J"⟩, 7), (⟨"LayeredDrawing$Coordinates", "shift", "(II)I"⟩, 5), (⟨"LayeredDrawing", "isEdge", "(I)Z"⟩, 7), (⟨"LayeredDrawing", "isLayer", "(I)Z"⟩, 7), (⟨"LayeredDrawing$Coordinates", "sideOfNode", "(II)I"⟩, 5), (⟨"LayeredDrawing$Text", "readNumber", "(II)I"⟩, 9), (⟨"LayeredDrawing$Text", "readDigit", "(CC)I"⟩, 9), (⟨"LayeredDrawing$Text", "readOption", "(CCCI)I"⟩, 9)]
theorem lw_r2 : ∀ q ∈ lw_privs_2, lw_okq q := List.forall_mem_cons.mpr ⟨lw_p16, List.forall_mem_cons.mpr ⟨lw_p17, List.forall_mem_cons.mpr ⟨lw_p18, List.forall_mem_cons.mpr ⟨lw_p19, List.forall_mem_cons.mpr ⟨lw_p20, List.forall_mem_cons.mpr ⟨lw_p21, List.forall_mem_cons.mpr ⟨lw_p22, List.forall_mem_cons.mpr ⟨lw_p23, List.forall_mem_cons.mpr ⟨lw_p24, List.forall_mem_cons.mpr ⟨lw_p25, List.forall_mem_cons.mpr ⟨lw_p26, List.forall_mem_cons.mpr ⟨lw_p27, List.forall_mem_cons.mpr ⟨lw_p28, List.forall_mem_cons.mpr ⟨lw_p29, List.forall_mem_cons.mpr ⟨lw_p30, List.forall_mem_cons.mpr ⟨lw_p31, fun _ h => absurd h List.not_mem_nil⟩⟩⟩⟩⟩⟩⟩⟩⟩⟩⟩⟩⟩⟩⟩⟩
theorem lw_p32 : lw_okq (⟨"LayeredDrawing$Text", "take", "(C)Z"⟩, 9) := ⟨⟨by decide +kernel, by decide +kernel⟩, List.mem_of_getElem? (i := 216) (by decide +kernel), List.mem_of_getElem? (i := 816) (by decide +kernel), List.mem_of_getElem? (i := 817) (by decide +kernel)⟩
def lw_privs_3 : List (MethodName × Nat) := [(⟨"LayeredDrawing$Text", "take", "(C)Z"⟩, 9)]
theorem lw_r3 : ∀ q ∈ lw_privs_3, lw_okq q := List.forall_mem_cons.mpr ⟨lw_p32, fun _ h => absurd h List.not_mem_nil⟩
def lw_privs : List (MethodName × Nat) := lw_privs_1 ++ (lw_privs_2 ++ (lw_privs_3))
def lw_tbl : List Cond := k2_sels lw_privs ++ tables_1
theorem lw_privs_ok : ∀ q ∈ lw_privs, lw_okq q := by
  show ∀ q ∈ lw_privs_1 ++ (lw_privs_2 ++ (lw_privs_3)), lw_okq q
  exact List.forall_mem_append.mpr ⟨lw_r1, List.forall_mem_append.mpr ⟨lw_r2, lw_r3⟩⟩
/-! ===== how the tables' facts are checked by counting ===== -/
section GL
variable (T : Nat → GM) (F : Nat → List Nat) (Yf : Nat → MethodName) (Bf : Nat → ByteArray) (Rf : Nat → Option FieldType) (cl : List vw_C) (E : String) (nests : List (String × Nat × MethodName × String)) (good : List Jvm.Cond)
/-- what a link of a constant pool must give: its number, its kind, two numbers -/
def gLink (own : String) (q : Nat × Nat × Nat × Int) : Prop := match q with
  | (k, 0, x, y) => 0 ≤ y ∧ ∃ (C : String) (Tf : u_T) (N : Nat) (ty : Nat → FieldType), gFd cl F good x y.toNat C Tf N ty ∧ Jvm.Cond.fieldLink own k C (Tf y.toNat).2.1 (Tf y.toNat).2.2.1 ∈ good
  | (k, 1, x, y) => 0 ≤ y ∧ ∃ (C : String) (Tf : u_T) (N : Nat) (ty : Nat → FieldType), gFd cl F good x y.toNat C Tf N ty ∧ Jvm.Cond.fieldLink own k C (Tf y.toNat).2.1 (Tf y.toNat).2.2.1 ∈ good ∧ (Tf y.toNat).2.2.2 = false
  | (k, 2, x, y) => x < 1000 ∧ Jvm.Cond.methodLink own k (Yf x) ∈ good ∧ Jvm.Cond.static (Yf x) ∈ good ∧ Jvm.Cond.initialized (Yf x).cls ∈ good ∧ Jvm.Cond.code (Yf x) (Bf x) (T x).2.2.1 (Rf x) ∈ good ∧ ((Yf x).cls ≠ "java/lang/invoke/MethodHandle" ∧ (Yf x).cls ≠ "java/lang/invoke/VarHandle") ∧ (parseMethodDescriptor (Yf x).desc).map (fun d => d.parameters.length) = some y.toNat
  | (k, 3, x, y) => ∃ n : Nat, y = ((n + 1 : Nat) : Int) ∧ Jvm.Cond.methodLink own k (Yf x) ∈ good ∧ Jvm.Cond.instanceMethod (Yf x) ∈ good ∧ Jvm.Cond.selects (Yf x).cls (Yf x) (Yf x) ∈ good ∧ Jvm.Cond.initialized (Yf x).cls ∈ good ∧ Jvm.Cond.code (Yf x) (Bf x) (T x).2.2.1 (Rf x) ∈ good ∧ ((Yf x).cls ≠ "java/lang/invoke/MethodHandle" ∧ (Yf x).cls ≠ "java/lang/invoke/VarHandle") ∧ (parseMethodDescriptor (Yf x).desc).map (fun d => d.parameters.length) = some n ∧ (T x).1 < 100 ∧ ∃ (Tf : u_T) (N : Nat), cl[(T x).1]? = some ((Yf x).cls, Tf, N)
  | (k, 4, x, y) => x ≠ 1000 ∧ ∃ n : Nat, y = ((n + 1 : Nat) : Int) ∧ (Jvm.Cond.methodLink own k (Yf x) ∈ good ∨ ∃ host, (own, k, Yf x, host) ∈ nests) ∧ Jvm.Cond.instanceMethod (Yf x) ∈ good ∧ (Yf x).name = "<init>" ∧ Rf x = none ∧ Jvm.Cond.initialized (Yf x).cls ∈ good ∧ Jvm.Cond.code (Yf x) (Bf x) (T x).2.2.1 (Rf x) ∈ good ∧ ((Yf x).cls ≠ "java/lang/invoke/MethodHandle" ∧ (Yf x).cls ≠ "java/lang/invoke/VarHandle") ∧ (parseMethodDescriptor (Yf x).desc).map (fun d => d.parameters.length) = some n
  | (k, 5, x, _) => x = 1000 ∧ Jvm.Cond.methodLink own k Lib.objectInit ∈ good ∧ Jvm.Cond.instanceMethod Lib.objectInit ∈ good ∧ Jvm.Cond.code Lib.objectInit ⟨#[0xb1]⟩ 1 none ∈ good
  | (k, 6, x, _) => x = 1001 ∧ Jvm.Cond.methodLink own k arraycopyName ∈ good ∧ Jvm.Cond.native arraycopyName ∈ good ∧ Jvm.Cond.static arraycopyName ∈ good ∧ Jvm.Cond.initialized "java/lang/System" ∈ good
  | (k, 13, x, _) => ∃ (nm : MethodName) (bc : ByteArray) (n : Nat), (x = 1002 ∧ nm = Lib.Math.abs.name ∧ bc = Lib.Math.abs.code ∧ n = 1 ∨ x = 1003 ∧ nm = Lib.Math.max.name ∧ bc = Lib.Math.max.code ∧ n = 2 ∨ x = 1004 ∧ nm = Lib.Math.min.name ∧ bc = Lib.Math.min.code ∧ n = 2) ∧ Jvm.Cond.methodLink own k nm ∈ good ∧ Jvm.Cond.static nm ∈ good ∧ Jvm.Cond.initialized "java/lang/Math" ∈ good ∧ Jvm.Cond.code nm bc n (some .int) ∈ good
  | (k, 7, _, y) => Jvm.Cond.constant own k (Int32.ofInt y) ∈ good
  | (k, 8, _, y) => Jvm.Cond.constantLong own k (Int64.ofInt y) ∈ good
  | (k, 9, x, y) => ∃ (C : String) (Tf : u_T) (N : Nat) (ty : Nat → FieldType), cl[x]? = some (C, Tf, N) ∧ x < 100 ∧ y.toNat = N ∧ (∀ w ∈ u_ws C Tf N, w ∈ good) ∧ (∀ j, j < N → parseFieldDescriptor (Tf j).2.2.1 = some (ty j)) ∧ gOb F x N ty ∧ Jvm.Cond.classLink own k C ∈ good ∧ Jvm.Cond.instantiable C N ∈ good ∧ Jvm.Cond.initialized C ∈ good
  | (k, 10, _, _) => Jvm.Cond.classLink own k E ∈ good
  | (_, 11, x, _) => ∃ (Tf : u_T) (N : Nat), cl[x]? = some (E, Tf, N) ∧ x < 100
  | (k, 12, x, y) => 0 ≤ y ∧ ∃ (C : String) (Tf : u_T) (N : Nat) (ty : Nat → FieldType), gFd cl F good x y.toNat C Tf N ty ∧ Jvm.Cond.fieldLink own k C (Tf y.toNat).2.1 (Tf y.toNat).2.2.1 ∈ good ∧ (Tf y.toNat).2.2.2 = true ∧ C = own
  | _ => False
end GL
def gIl (lk : List (Nat × Nat × Nat × Int)) (k t x : Nat) (y : Int) : Bool := lk.any fun q => Nat.beq q.1 k && Nat.beq q.2.1 t && Nat.beq q.2.2.1 x && decide (q.2.2.2 = y)
theorem gIl_i {lk : List (Nat × Nat × Nat × Int)} {k t x : Nat} {y : Int} (h : gIl lk k t x y = true) : (k, t, x, y) ∈ lk := by
  obtain ⟨q, hq, h⟩ := List.any_eq_true.mp h
  simp only [Bool.and_eq_true, decide_eq_true_eq] at h
  obtain ⟨⟨⟨h1, h2⟩, h3⟩, h4⟩ := h
  obtain ⟨a, b, c, d⟩ := q
  have h1 := Nat.eq_of_beq_eq_true h1
  have h2 := Nat.eq_of_beq_eq_true h2
  have h3 := Nat.eq_of_beq_eq_true h3
  dsimp only at h1 h2 h3 h4
  subst h1; subst h2; subst h3; subst h4
  exact hq
def gCk (lk : List (Nat × Nat × Nat × Int)) (ini : Bool) (cc : ByteArray) (e : GE) : Bool := match e with
  | (pc, i, x, y) => match i with
    | .aload _ | .iload _ | .lload _ | .istore _ | .lstore _ | .bipush _ | .newarray _ => decide (decode cc pc = .ok (i, 2))
    | .sipush _ | .iinc _ _ => decide (decode cc pc = .ok (i, 3))
    | .if_icmp _ off | .ifCond _ off | .goto off | .ifnull off | .ifnonnull off => decide (decode cc pc = .ok (i, 3)) && decide ((pc : Int) + off = (x : Int))
    | .tableswitch _ _ _ _ => decide (decode cc pc = .ok (i, x))
    | .ldc k => decide (decode cc pc = .ok (i, 2)) && gIl lk k 7 x y
    | .ldc2_w k => decide (decode cc pc = .ok (i, 3)) && gIl lk k 8 x y
    | .getfield k => decide (decode cc pc = .ok (i, 3)) && gIl lk k 0 x y
    | .putfield k => decide (decode cc pc = .ok (i, 3)) && (gIl lk k 1 x y || (ini && gIl lk k 12 x y))
    | .new k => decide (decode cc pc = .ok (i, 3)) && gIl lk k 9 x y
    | .anewarray k => decide (decode cc pc = .ok (i, 3)) && gIl lk k 10 x y
    | .aastore => decide (decode cc pc = .ok (i, 1)) && gIl lk 0 11 x y
    | .invokestatic k => decide (decode cc pc = .ok (i, 3)) && (gIl lk k 6 x y || (gIl lk k 13 x y || gIl lk k 2 x y))
    | .invokevirtual k => decide (decode cc pc = .ok (i, 3)) && gIl lk k 3 x y
    | .invokespecial k => decide (decode cc pc = .ok (i, 3)) && (gIl lk k 5 x y || gIl lk k 4 x y)
    | _ => decide (decode cc pc = .ok (i, 1))
theorem gAt_mem : ∀ {code : List GE} {pc : Nat} {r : Instr × Nat × Int}, gAt code pc = some r → (pc, r) ∈ code
  | [], _, _, h => by cases h
  | e :: t, pc, r, h => by
    unfold gAt at h
    split at h
    · rename_i hb
      cases h
      rw [← Nat.eq_of_beq_eq_true hb]
      exact List.mem_cons_self
    · exact List.mem_cons_of_mem _ (gAt_mem h)
theorem g_rows {T : Nat → GM} {F : Nat → List Nat} {Yf : Nat → MethodName} {Bf : Nat → ByteArray} {Rf : Nat → Option FieldType} {cl : List vw_C} {E : String} {nests : List (String × Nat × MethodName × String)} {good : List Jvm.Cond} {own : String} {ini : Bool} {cc : ByteArray} {code : List GE} (lk : List (Nat × Nat × Nat × Int)) (hlk : ∀ q ∈ lk, gLink T F Yf Bf Rf cl E nests good own q) (hck : code.all (gCk lk ini cc) = true) :
    ∀ pc i x y, gAt code pc = some (i, x, y) → gRow T F Yf Bf Rf cl E nests good own ini cc pc i x y := by
  intro pc i x y h
  have h1 := List.all_eq_true.mp hck _ (gAt_mem h)
  have two : ∀ {a : Prop} [Decidable a] {b : Bool}, (decide a && b) = true → a ∧ b = true := fun {a} _ {b} q => by
    rw [Bool.and_eq_true, decide_eq_true_eq] at q; exact q
  cases i with
  | ldc k => exact ⟨(two h1).1, hlk _ (gIl_i (two h1).2)⟩
  | ldc2_w k => exact ⟨(two h1).1, hlk _ (gIl_i (two h1).2)⟩
  | getfield k => exact ⟨(two h1).1, hlk _ (gIl_i (two h1).2)⟩
  | putfield k =>
    obtain ⟨h2, h3⟩ := two h1
    rcases Bool.or_eq_true _ _ |>.mp h3 with h3 | h3
    · obtain ⟨a, C, Tf, N, ty, b, c, d⟩ := hlk _ (gIl_i h3)
      exact ⟨h2, a, C, Tf, N, ty, b, c, Or.inl d⟩
    · rw [Bool.and_eq_true] at h3
      obtain ⟨a, C, Tf, N, ty, b, c, d, e⟩ := hlk _ (gIl_i h3.2)
      exact ⟨h2, a, C, Tf, N, ty, b, c, Or.inr ⟨d, h3.1, e⟩⟩
  | new k => exact ⟨(two h1).1, hlk _ (gIl_i (two h1).2)⟩
  | anewarray k => exact ⟨(two h1).1, hlk _ (gIl_i (two h1).2)⟩
  | aastore => exact ⟨(two h1).1, hlk _ (gIl_i (two h1).2)⟩
  | invokestatic k =>
    obtain ⟨h2, h3⟩ := two h1
    rcases Bool.or_eq_true _ _ |>.mp h3 with h3 | h3
    · exact ⟨h2, Or.inl (hlk _ (gIl_i h3))⟩
    · rcases Bool.or_eq_true _ _ |>.mp h3 with h3 | h3
      · exact ⟨h2, Or.inr (Or.inl (hlk _ (gIl_i h3)))⟩
      · exact ⟨h2, Or.inr (Or.inr (hlk _ (gIl_i h3)))⟩
  | invokevirtual k => exact ⟨(two h1).1, hlk _ (gIl_i (two h1).2)⟩
  | invokespecial k =>
    obtain ⟨h2, h3⟩ := two h1
    rcases Bool.or_eq_true _ _ |>.mp h3 with h3 | h3
    · exact ⟨h2, Or.inl (hlk _ (gIl_i h3))⟩
    · exact ⟨h2, Or.inr (hlk _ (gIl_i h3))⟩
  | if_icmp k off => exact ⟨(two h1).1, of_decide_eq_true (two h1).2⟩
  | ifCond k off => exact ⟨(two h1).1, of_decide_eq_true (two h1).2⟩
  | goto off => exact ⟨(two h1).1, of_decide_eq_true (two h1).2⟩
  | ifnull off => exact ⟨(two h1).1, of_decide_eq_true (two h1).2⟩
  | ifnonnull off => exact ⟨(two h1).1, of_decide_eq_true (two h1).2⟩
  | _ => exact of_decide_eq_true (p := decode cc pc = .ok (_, _)) h1
end
section
/-! names, code and tables of the small machine (written by a program out of the printed names and tables) -/
def cn_0 : String := "LayeredDrawing$Coordinates"
def ct_0 : u_T := fun k => match k with
  | 0 => ("LayeredDrawing$Coordinates", "graph", "LLayeredDrawing$Graph;", true)
  | 1 => ("LayeredDrawing$Coordinates", "layering", "LLayeredDrawing$Layering;", true)
  | 2 => ("LayeredDrawing$Coordinates", "order", "LLayeredDrawing$Order;", true)
  | 3 => ("LayeredDrawing$Coordinates", "leftOf", "[I", true)
  | _ => ("LayeredDrawing$Coordinates", "lefts", "[I", true)
def cy_0 : Nat → FieldType := fun k => match k with
  | 0 => .object "LayeredDrawing$Graph"
  | 1 => .object "LayeredDrawing$Layering"
  | 2 => .object "LayeredDrawing$Order"
  | 3 => .array .int
  | _ => .array .int
def cn_1 : String := "LayeredDrawing$Graph"
def ct_1 : u_T := fun k => match k with
  | 0 => ("LayeredDrawing$Graph", "nodeCount", "I", false)
  | 1 => ("LayeredDrawing$Graph", "edgeCount", "I", false)
  | 2 => ("LayeredDrawing$Graph", "widthOf", "[I", true)
  | 3 => ("LayeredDrawing$Graph", "groupOf", "[I", true)
  | 4 => ("LayeredDrawing$Graph", "source", "[I", true)
  | 5 => ("LayeredDrawing$Graph", "target", "[I", true)
  | 6 => ("LayeredDrawing$Graph", "sourcePort", "[I", true)
  | 7 => ("LayeredDrawing$Graph", "targetPort", "[I", true)
  | _ => ("LayeredDrawing$Graph", "least", "[I", true)
def cy_1 : Nat → FieldType := fun k => match k with
  | 0 => .int
  | 1 => .int
  | 2 => .array .int
  | 3 => .array .int
  | 4 => .array .int
  | 5 => .array .int
  | 6 => .array .int
  | 7 => .array .int
  | _ => .array .int
def cn_2 : String := "LayeredDrawing$Layering"
def ct_2 : u_T := fun k => match k with
  | 0 => ("LayeredDrawing$Layering", "graph", "LLayeredDrawing$Graph;", true)
  | 1 => ("LayeredDrawing$Layering", "layerCount", "I", false)
  | 2 => ("LayeredDrawing$Layering", "turned", "[Z", true)
  | 3 => ("LayeredDrawing$Layering", "upper", "[I", true)
  | 4 => ("LayeredDrawing$Layering", "lower", "[I", true)
  | 5 => ("LayeredDrawing$Layering", "layer", "[I", true)
  | 6 => ("LayeredDrawing$Layering", "top", "[I", true)
  | 7 => ("LayeredDrawing$Layering", "bottom", "[I", true)
  | 8 => ("LayeredDrawing$Layering", "visit", "[I", true)
  | 9 => ("LayeredDrawing$Layering", "flow", "[I", true)
  | _ => ("LayeredDrawing$Layering", "pushedBy", "[I", true)
def cy_2 : Nat → FieldType := fun k => match k with
  | 0 => .object "LayeredDrawing$Graph"
  | 1 => .int
  | 2 => .array .boolean
  | 3 => .array .int
  | 4 => .array .int
  | 5 => .array .int
  | 6 => .array .int
  | 7 => .array .int
  | 8 => .array .int
  | 9 => .array .int
  | _ => .array .int
def cn_3 : String := "LayeredDrawing$Order"
def ct_3 : u_T := fun k => match k with
  | 0 => ("LayeredDrawing$Order", "graph", "LLayeredDrawing$Graph;", true)
  | 1 => ("LayeredDrawing$Order", "layering", "LLayeredDrawing$Layering;", true)
  | 2 => ("LayeredDrawing$Order", "vertexCount", "I", false)
  | 3 => ("LayeredDrawing$Order", "nameOf", "[I", true)
  | 4 => ("LayeredDrawing$Order", "layerAt", "[I", true)
  | 5 => ("LayeredDrawing$Order", "firstBend", "[I", true)
  | 6 => ("LayeredDrawing$Order", "start", "[I", true)
  | 7 => ("LayeredDrawing$Order", "sequence", "[I", true)
  | 8 => ("LayeredDrawing$Order", "place", "[I", true)
  | 9 => ("LayeredDrawing$Order", "remembered", "[I", true)
  | 10 => ("LayeredDrawing$Order", "best", "[I", true)
  | 11 => ("LayeredDrawing$Order", "closed", "[I", true)
  | 12 => ("LayeredDrawing$Order", "weightSum", "[I", true)
  | 13 => ("LayeredDrawing$Order", "weightParts", "[I", true)
  | 14 => ("LayeredDrawing$Order", "upperSpot", "[I", true)
  | _ => ("LayeredDrawing$Order", "lowerSpot", "[I", true)
def cy_3 : Nat → FieldType := fun k => match k with
  | 0 => .object "LayeredDrawing$Graph"
  | 1 => .object "LayeredDrawing$Layering"
  | 2 => .int
  | 3 => .array .int
  | 4 => .array .int
  | 5 => .array .int
  | 6 => .array .int
  | 7 => .array .int
  | 8 => .array .int
  | 9 => .array .int
  | 10 => .array .int
  | 11 => .array .int
  | 12 => .array .int
  | 13 => .array .int
  | 14 => .array .int
  | _ => .array .int
def cn_4 : String := "LayeredDrawing$Slot"
def ct_4 : u_T := fun k => match k with
  | 0 => ("LayeredDrawing$Slot", "filled", "Z", false)
  | 1 => ("LayeredDrawing$Slot", "laidOut", "Z", false)
  | 2 => ("LayeredDrawing$Slot", "graph", "LLayeredDrawing$Graph;", true)
  | 3 => ("LayeredDrawing$Slot", "order", "[I", true)
  | _ => ("LayeredDrawing$Slot", "leftOf", "[I", true)
def cy_4 : Nat → FieldType := fun k => match k with
  | 0 => .boolean
  | 1 => .boolean
  | 2 => .object "LayeredDrawing$Graph"
  | 3 => .array .int
  | _ => .array .int
def cn_5 : String := "LayeredDrawing$Text"
def ct_5 : u_T := fun k => match k with
  | 0 => ("LayeredDrawing$Text", "signs", "[C", true)
  | 1 => ("LayeredDrawing$Text", "length", "I", false)
  | 2 => ("LayeredDrawing$Text", "position", "I", false)
  | 3 => ("LayeredDrawing$Text", "edgesFound", "I", false)
  | 4 => ("LayeredDrawing$Text", "source", "I", false)
  | 5 => ("LayeredDrawing$Text", "target", "I", false)
  | 6 => ("LayeredDrawing$Text", "sourcePort", "I", false)
  | 7 => ("LayeredDrawing$Text", "targetPort", "I", false)
  | _ => ("LayeredDrawing$Text", "least", "I", false)
def cy_5 : Nat → FieldType := fun k => match k with
  | 0 => .array .char
  | 1 => .int
  | 2 => .int
  | 3 => .int
  | 4 => .int
  | 5 => .int
  | 6 => .int
  | 7 => .int
  | _ => .int
def cn_6 : String := "LayeredDrawing"
def ct_6 : u_T := fun k => match k with
  | 0 => ("LayeredDrawing", "graph", "LLayeredDrawing$Graph;", true)
  | 1 => ("LayeredDrawing", "layering", "LLayeredDrawing$Layering;", true)
  | 2 => ("LayeredDrawing", "order", "LLayeredDrawing$Order;", true)
  | 3 => ("LayeredDrawing", "coordinates", "LLayeredDrawing$Coordinates;", true)
  | 4 => ("LayeredDrawing", "text", "LLayeredDrawing$Text;", true)
  | 5 => ("LayeredDrawing", "slots", "[LLayeredDrawing$Slot;", true)
  | _ => ("LayeredDrawing", "laidOut", "Z", false)
def cy_6 : Nat → FieldType := fun k => match k with
  | 0 => .object "LayeredDrawing$Graph"
  | 1 => .object "LayeredDrawing$Layering"
  | 2 => .object "LayeredDrawing$Order"
  | 3 => .object "LayeredDrawing$Coordinates"
  | 4 => .object "LayeredDrawing$Text"
  | 5 => .array (.object "LayeredDrawing$Slot")
  | _ => .boolean
def g_Cl : List vw_C := [(cn_0, ct_0, 5), (cn_1, ct_1, 9), (cn_2, ct_2, 11), (cn_3, ct_3, 16), (cn_4, ct_4, 5), (cn_5, ct_5, 9), (cn_6, ct_6, 7)]
/-- LayeredDrawing.Coordinates.<init>(LLayeredDrawing$Graph;LLayeredDrawing$Layering;LLayeredDrawing$Order;)V -/
def K_0 : List GE := [(0, .aload_n 0, 0, 0), (1, .invokespecial 3, 1000, 1), (4, .aload_n 0, 0, 0), (5, .bipush 60, 0, 0), (7, .newarray .int, 0, 0), (9, .putfield 9, 0, 3), (12, .aload_n 0, 0, 0), (13, .bipush 20, 0, 0), (15, .newarray .int, 0, 0), (17, .putfield 15, 0, 4), (20, .aload_n 0, 0, 0), (21, .aload_n 1, 0, 0), (22, .putfield 18, 0, 0), (25, .aload_n 0, 0, 0), (26, .aload_n 2, 0, 0), (27, .putfield 22, 0, 1), (30, .aload_n 0, 0, 0), (31, .aload_n 3, 0, 0), (32, .putfield 26, 0, 2), (35, .return_, 0, 0)]
/-- LayeredDrawing.Coordinates.pack()V -/
def K_1 : List GE := [(0, .iconst 0, 0, 0), (1, .istore_n 1, 0, 0), (2, .iload_n 1, 0, 0), (3, .aload_n 0, 0, 0), (4, .getfield 22, 0, 1), (7, .getfield 30, 2, 1), (10, .if_icmp .ge 75, 85, 0), (13, .iconst 0, 0, 0), (14, .istore_n 2, 0, 0), (15, .aload_n 0, 0, 0), (16, .getfield 26, 0, 2), (19, .getfield 36, 3, 6), (22, .iload_n 1, 0, 0), (23, .iaload, 0, 0), (24, .istore_n 3, 0, 0), (25, .iload_n 3, 0, 0), (26, .aload_n 0, 0, 0), (27, .getfield 26, 0, 2), (30, .getfield 36, 3, 6), (33, .iload_n 1, 0, 0), (34, .iconst 1, 0, 0), (35, .iadd, 0, 0), (36, .iaload, 0, 0), (37, .if_icmp .ge 42, 79, 0), (40, .aload_n 0, 0, 0), (41, .getfield 26, 0, 2), (44, .getfield 41, 3, 7), (47, .iload_n 3, 0, 0), (48, .iaload, 0, 0), (49, .istore 4, 0, 0), (51, .aload_n 0, 0, 0), (52, .getfield 9, 0, 3), (55, .iload 4, 0, 0), (57, .iload_n 2, 0, 0), (58, .iastore, 0, 0), (59, .iload_n 2, 0, 0), (60, .aload_n 0, 0, 0), (61, .getfield 26, 0, 2), (64, .iload 4, 0, 0), (66, .invokevirtual 44, 42, 2), (69, .iconst 1, 0, 0), (70, .iadd, 0, 0), (71, .iadd, 0, 0), (72, .istore_n 2, 0, 0), (73, .iinc 3 1, 0, 0), (76, .goto (-51), 25, 0), (79, .iinc 1 1, 0, 0), (82, .goto (-80), 2, 0), (85, .return_, 0, 0)]
/-- LayeredDrawing.Coordinates.alignLayers()V -/
def K_2 : List GE := [(0, .iconst 1, 0, 0), (1, .istore_n 1, 0, 0), (2, .iload_n 1, 0, 0), (3, .aload_n 0, 0, 0), (4, .getfield 22, 0, 1), (7, .getfield 30, 2, 1), (10, .if_icmp .ge 108, 118, 0), (13, .ldc 48, 0, 1073741824), (15, .istore_n 2, 0, 0), (16, .aload_n 0, 0, 0), (17, .getfield 26, 0, 2), (20, .getfield 36, 3, 6), (23, .iload_n 1, 0, 0), (24, .iconst 1, 0, 0), (25, .iadd, 0, 0), (26, .iaload, 0, 0), (27, .iconst 1, 0, 0), (28, .isub, 0, 0), (29, .istore_n 3, 0, 0), (30, .iload_n 3, 0, 0), (31, .aload_n 0, 0, 0), (32, .getfield 26, 0, 2), (35, .getfield 36, 3, 6), (38, .iload_n 1, 0, 0), (39, .iaload, 0, 0), (40, .if_icmp .lt 72, 112, 0), (43, .aload_n 0, 0, 0), (44, .getfield 26, 0, 2), (47, .getfield 41, 3, 7), (50, .iload_n 3, 0, 0), (51, .iaload, 0, 0), (52, .istore 4, 0, 0), (54, .aload_n 0, 0, 0), (55, .iload 4, 0, 0), (57, .iload_n 1, 0, 0), (58, .invokevirtual 49, 3, 3), (61, .iload_n 2, 0, 0), (62, .aload_n 0, 0, 0), (63, .getfield 26, 0, 2), (66, .iload 4, 0, 0), (68, .invokevirtual 44, 42, 2), (71, .isub, 0, 0), (72, .invokestatic 53, 1004, 2), (75, .istore 5, 0, 0), (77, .aload_n 0, 0, 0), (78, .getfield 9, 0, 3), (81, .iload 4, 0, 0), (83, .aload_n 0, 0, 0), (84, .getfield 9, 0, 3), (87, .iload 4, 0, 0), (89, .iaload, 0, 0), (90, .iload 5, 0, 0), (92, .invokestatic 58, 1003, 2), (95, .iastore, 0, 0), (96, .aload_n 0, 0, 0), (97, .getfield 9, 0, 3), (100, .iload 4, 0, 0), (102, .iaload, 0, 0), (103, .iconst 1, 0, 0), (104, .isub, 0, 0), (105, .istore_n 2, 0, 0), (106, .iinc 3 (-1), 0, 0), (109, .goto (-79), 30, 0), (112, .iinc 1 1, 0, 0), (115, .goto (-113), 2, 0), (118, .return_, 0, 0)]
/-- LayeredDrawing.Coordinates.desiredLeft(II)I -/
def K_3 : List GE := [(0, .iconst 0, 0, 0), (1, .istore_n 3, 0, 0), (2, .iconst 0, 0, 0), (3, .istore 4, 0, 0), (5, .iload 4, 0, 0), (7, .aload_n 0, 0, 0), (8, .getfield 18, 0, 0), (11, .getfield 61, 1, 1), (14, .if_icmp .ge 63, 77, 0), (17, .aload_n 0, 0, 0), (18, .getfield 26, 0, 2), (21, .iload 4, 0, 0), (23, .iload_n 2, 0, 0), (24, .iconst 1, 0, 0), (25, .isub, 0, 0), (26, .invokevirtual 66, 40, 3), (29, .ifCond .eq 42, 71, 0), (32, .aload_n 0, 0, 0), (33, .getfield 26, 0, 2), (36, .iload 4, 0, 0), (38, .iload_n 2, 0, 0), (39, .invokevirtual 70, 39, 3), (42, .iload_n 1, 0, 0), (43, .if_icmp .ne 28, 71, 0), (46, .aload_n 0, 0, 0), (47, .iload_n 3, 0, 0), (48, .aload_n 0, 0, 0), (49, .getfield 9, 0, 3), (52, .aload_n 0, 0, 0), (53, .getfield 26, 0, 2), (56, .iload 4, 0, 0), (58, .iload_n 2, 0, 0), (59, .iconst 1, 0, 0), (60, .isub, 0, 0), (61, .invokevirtual 70, 39, 3), (64, .iaload, 0, 0), (65, .invokevirtual 73, 4, 3), (68, .iinc 3 1, 0, 0), (71, .iinc 4 1, 0, 0), (74, .goto (-69), 5, 0), (77, .iload_n 3, 0, 0), (78, .ifCond .ne 12, 90, 0), (81, .aload_n 0, 0, 0), (82, .getfield 9, 0, 3), (85, .iload_n 1, 0, 0), (86, .iaload, 0, 0), (87, .goto 13, 100, 0), (90, .aload_n 0, 0, 0), (91, .getfield 15, 0, 4), (94, .iload_n 3, 0, 0), (95, .iconst 1, 0, 0), (96, .isub, 0, 0), (97, .iconst 2, 0, 0), (98, .idiv, 0, 0), (99, .iaload, 0, 0), (100, .ireturn, 0, 0)]
/-- LayeredDrawing.Coordinates.putSorted(II)V -/
def K_4 : List GE := [(0, .iload_n 1, 0, 0), (1, .istore_n 3, 0, 0), (2, .iload_n 1, 0, 0), (3, .iconst 1, 0, 0), (4, .isub, 0, 0), (5, .istore 4, 0, 0), (7, .iload 4, 0, 0), (9, .ifCond .lt 39, 48, 0), (12, .aload_n 0, 0, 0), (13, .getfield 15, 0, 4), (16, .iload 4, 0, 0), (18, .iaload, 0, 0), (19, .iload_n 2, 0, 0), (20, .if_icmp .le 28, 48, 0), (23, .aload_n 0, 0, 0), (24, .getfield 15, 0, 4), (27, .iload 4, 0, 0), (29, .iconst 1, 0, 0), (30, .iadd, 0, 0), (31, .aload_n 0, 0, 0), (32, .getfield 15, 0, 4), (35, .iload 4, 0, 0), (37, .iaload, 0, 0), (38, .iastore, 0, 0), (39, .iload 4, 0, 0), (41, .istore_n 3, 0, 0), (42, .iinc 4 (-1), 0, 0), (45, .goto (-38), 7, 0), (48, .aload_n 0, 0, 0), (49, .getfield 15, 0, 4), (52, .iload_n 3, 0, 0), (53, .iload_n 2, 0, 0), (54, .iastore, 0, 0), (55, .return_, 0, 0)]
/-- LayeredDrawing.Coordinates.rightOf(I)I -/
def K_5 : List GE := [(0, .aload_n 0, 0, 0), (1, .getfield 9, 0, 3), (4, .iload_n 1, 0, 0), (5, .iaload, 0, 0), (6, .aload_n 0, 0, 0), (7, .getfield 26, 0, 2), (10, .iload_n 1, 0, 0), (11, .invokevirtual 44, 42, 2), (14, .iadd, 0, 0), (15, .ireturn, 0, 0)]
/-- LayeredDrawing.Coordinates.greatestRight()I -/
def K_6 : List GE := [(0, .iconst 0, 0, 0), (1, .istore_n 1, 0, 0), (2, .iconst 0, 0, 0), (3, .istore_n 2, 0, 0), (4, .iload_n 2, 0, 0), (5, .aload_n 0, 0, 0), (6, .getfield 26, 0, 2), (9, .getfield 77, 3, 2), (12, .if_icmp .ge 19, 31, 0), (15, .iload_n 1, 0, 0), (16, .aload_n 0, 0, 0), (17, .iload_n 2, 0, 0), (18, .invokevirtual 80, 5, 2), (21, .invokestatic 58, 1003, 2), (24, .istore_n 1, 0, 0), (25, .iinc 2 1, 0, 0), (28, .goto (-24), 4, 0), (31, .iload_n 1, 0, 0), (32, .ireturn, 0, 0)]
/-- LayeredDrawing.Coordinates.shift(II)I -/
def K_7 : List GE := [(0, .aload_n 0, 0, 0), (1, .getfield 9, 0, 3), (4, .aload_n 0, 0, 0), (5, .getfield 26, 0, 2), (8, .iload_n 1, 0, 0), (9, .iload_n 2, 0, 0), (10, .invokevirtual 70, 39, 3), (13, .iaload, 0, 0), (14, .aload_n 0, 0, 0), (15, .getfield 9, 0, 3), (18, .aload_n 0, 0, 0), (19, .getfield 26, 0, 2), (22, .iload_n 1, 0, 0), (23, .iload_n 2, 0, 0), (24, .iconst 1, 0, 0), (25, .iadd, 0, 0), (26, .invokevirtual 70, 39, 3), (29, .iaload, 0, 0), (30, .isub, 0, 0), (31, .invokestatic 83, 1002, 1), (34, .ireturn, 0, 0)]
/-- LayeredDrawing.Coordinates.sumOfShifts()I -/
def K_8 : List GE := [(0, .iconst 0, 0, 0), (1, .istore_n 1, 0, 0), (2, .iconst 0, 0, 0), (3, .istore_n 2, 0, 0), (4, .iload_n 2, 0, 0), (5, .aload_n 0, 0, 0), (6, .getfield 18, 0, 0), (9, .getfield 61, 1, 1), (12, .if_icmp .ge 52, 64, 0), (15, .aload_n 0, 0, 0), (16, .getfield 22, 0, 1), (19, .getfield 86, 2, 7), (22, .iload_n 2, 0, 0), (23, .iaload, 0, 0), (24, .istore_n 3, 0, 0), (25, .aload_n 0, 0, 0), (26, .getfield 22, 0, 1), (29, .getfield 89, 2, 6), (32, .iload_n 2, 0, 0), (33, .iaload, 0, 0), (34, .istore 4, 0, 0), (36, .iload 4, 0, 0), (38, .iload_n 3, 0, 0), (39, .if_icmp .ge 19, 58, 0), (42, .iload_n 1, 0, 0), (43, .aload_n 0, 0, 0), (44, .iload_n 2, 0, 0), (45, .iload 4, 0, 0), (47, .invokevirtual 92, 7, 3), (50, .iadd, 0, 0), (51, .istore_n 1, 0, 0), (52, .iinc 4 1, 0, 0), (55, .goto (-19), 36, 0), (58, .iinc 2 1, 0, 0), (61, .goto (-57), 4, 0), (64, .iload_n 1, 0, 0), (65, .ireturn, 0, 0)]
/-- LayeredDrawing.Coordinates.straightParts(I)I -/
def K_9 : List GE := [(0, .iconst 0, 0, 0), (1, .istore_n 2, 0, 0), (2, .aload_n 0, 0, 0), (3, .getfield 22, 0, 1), (6, .getfield 86, 2, 7), (9, .iload_n 1, 0, 0), (10, .iaload, 0, 0), (11, .istore_n 3, 0, 0), (12, .aload_n 0, 0, 0), (13, .getfield 22, 0, 1), (16, .getfield 89, 2, 6), (19, .iload_n 1, 0, 0), (20, .iaload, 0, 0), (21, .istore 4, 0, 0), (23, .iload 4, 0, 0), (25, .iload_n 3, 0, 0), (26, .if_icmp .ge 22, 48, 0), (29, .aload_n 0, 0, 0), (30, .iload_n 1, 0, 0), (31, .iload 4, 0, 0), (33, .invokevirtual 92, 7, 3), (36, .ifCond .ne 6, 42, 0), (39, .iinc 2 1, 0, 0), (42, .iinc 4 1, 0, 0), (45, .goto (-22), 23, 0), (48, .iload_n 2, 0, 0), (49, .ireturn, 0, 0)]
/-- LayeredDrawing.Coordinates.sideOf(II)I -/
def K_10 : List GE := [(0, .iload_n 2, 0, 0), (1, .ifCond .eq 8, 9, 0), (4, .iload_n 2, 0, 0), (5, .iconst 2, 0, 0), (6, .if_icmp .ne 7, 13, 0), (9, .iconst 1, 0, 0), (10, .goto 4, 14, 0), (13, .iconst 0, 0, 0), (14, .istore_n 3, 0, 0), (15, .iload_n 3, 0, 0), (16, .ifCond .eq 8, 24, 0), (19, .ldc 48, 0, 1073741824), (21, .goto 4, 25, 0), (24, .iconst 0, 0, 0), (25, .istore 4, 0, 0), (27, .iconst 0, 0, 0), (28, .istore 5, 0, 0), (30, .iload 5, 0, 0), (32, .aload_n 0, 0, 0), (33, .getfield 18, 0, 0), (36, .getfield 95, 1, 0), (39, .if_icmp .ge 55, 94, 0), (42, .aload_n 0, 0, 0), (43, .getfield 18, 0, 0), (46, .getfield 98, 1, 3), (49, .iload 5, 0, 0), (51, .iaload, 0, 0), (52, .iload_n 1, 0, 0), (53, .if_icmp .ne 35, 88, 0), (56, .aload_n 0, 0, 0), (57, .iload 5, 0, 0), (59, .iload_n 2, 0, 0), (60, .invokevirtual 101, 11, 3), (63, .istore 6, 0, 0), (65, .iload_n 3, 0, 0), (66, .ifCond .eq 13, 79, 0), (69, .iload 4, 0, 0), (71, .iload 6, 0, 0), (73, .invokestatic 53, 1004, 2), (76, .goto 10, 86, 0), (79, .iload 4, 0, 0), (81, .iload 6, 0, 0), (83, .invokestatic 58, 1003, 2), (86, .istore 4, 0, 0), (88, .iinc 5 1, 0, 0), (91, .goto (-61), 30, 0), (94, .iload 4, 0, 0), (96, .ireturn, 0, 0)]
/-- LayeredDrawing.Coordinates.sideOfNode(II)I -/
def K_11 : List GE := [(0, .iload_n 2, 0, 0), (1, .ifCond .ne 10, 11, 0), (4, .aload_n 0, 0, 0), (5, .getfield 9, 0, 3), (8, .iload_n 1, 0, 0), (9, .iaload, 0, 0), (10, .ireturn, 0, 0), (11, .iload_n 2, 0, 0), (12, .iconst 1, 0, 0), (13, .if_icmp .ne 11, 24, 0), (16, .aload_n 0, 0, 0), (17, .iload_n 1, 0, 0), (18, .invokevirtual 80, 5, 2), (21, .goto 12, 33, 0), (24, .aload_n 0, 0, 0), (25, .getfield 22, 0, 1), (28, .getfield 104, 2, 5), (31, .iload_n 1, 0, 0), (32, .iaload, 0, 0), (33, .ireturn, 0, 0)]
/-- LayeredDrawing.Coordinates.countIntruders(I)I -/
def K_12 : List GE := [(0, .aload_n 0, 0, 0), (1, .iload_n 1, 0, 0), (2, .iconst 0, 0, 0), (3, .invokevirtual 107, 10, 3), (6, .istore_n 2, 0, 0), (7, .aload_n 0, 0, 0), (8, .iload_n 1, 0, 0), (9, .iconst 1, 0, 0), (10, .invokevirtual 107, 10, 3), (13, .istore_n 3, 0, 0), (14, .aload_n 0, 0, 0), (15, .iload_n 1, 0, 0), (16, .iconst 2, 0, 0), (17, .invokevirtual 107, 10, 3), (20, .istore 4, 0, 0), (22, .aload_n 0, 0, 0), (23, .iload_n 1, 0, 0), (24, .iconst 3, 0, 0), (25, .invokevirtual 107, 10, 3), (28, .istore 5, 0, 0), (30, .iconst 0, 0, 0), (31, .istore 6, 0, 0), (33, .iconst 0, 0, 0), (34, .istore 7, 0, 0), (36, .iload 7, 0, 0), (38, .aload_n 0, 0, 0), (39, .getfield 18, 0, 0), (42, .getfield 95, 1, 0), (45, .if_icmp .ge 85, 130, 0), (48, .aload_n 0, 0, 0), (49, .getfield 22, 0, 1), (52, .getfield 104, 2, 5), (55, .iload 7, 0, 0), (57, .iaload, 0, 0), (58, .istore 8, 0, 0), (60, .iload 8, 0, 0), (62, .iload 4, 0, 0), (64, .if_icmp .lt 35, 99, 0), (67, .iload 8, 0, 0), (69, .iload 5, 0, 0), (71, .if_icmp .gt 28, 99, 0), (74, .aload_n 0, 0, 0), (75, .getfield 9, 0, 3), (78, .iload 7, 0, 0), (80, .iaload, 0, 0), (81, .iload_n 3, 0, 0), (82, .if_icmp .ge 17, 99, 0), (85, .aload_n 0, 0, 0), (86, .iload 7, 0, 0), (88, .invokevirtual 80, 5, 2), (91, .iload_n 2, 0, 0), (92, .if_icmp .le 7, 99, 0), (95, .iconst 1, 0, 0), (96, .goto 4, 100, 0), (99, .iconst 0, 0, 0), (100, .istore 9, 0, 0), (102, .iload 9, 0, 0), (104, .ifCond .eq 20, 124, 0), (107, .aload_n 0, 0, 0), (108, .getfield 18, 0, 0), (111, .getfield 98, 1, 3), (114, .iload 7, 0, 0), (116, .iaload, 0, 0), (117, .iload_n 1, 0, 0), (118, .if_icmp .eq 6, 124, 0), (121, .iinc 6 1, 0, 0), (124, .iinc 7 1, 0, 0), (127, .goto (-91), 36, 0), (130, .iload 6, 0, 0), (132, .ireturn, 0, 0)]
/-- LayeredDrawing.Graph.<init>()V -/
def K_13 : List GE := [(0, .aload_n 0, 0, 0), (1, .invokespecial 3, 1000, 1), (4, .aload_n 0, 0, 0), (5, .iconst 0, 0, 0), (6, .putfield 9, 1, 0), (9, .aload_n 0, 0, 0), (10, .iconst 0, 0, 0), (11, .putfield 15, 1, 1), (14, .aload_n 0, 0, 0), (15, .bipush 12, 0, 0), (17, .newarray .int, 0, 0), (19, .putfield 18, 1, 2), (22, .aload_n 0, 0, 0), (23, .bipush 12, 0, 0), (25, .newarray .int, 0, 0), (27, .putfield 22, 1, 3), (30, .aload_n 0, 0, 0), (31, .bipush 20, 0, 0), (33, .newarray .int, 0, 0), (35, .putfield 25, 1, 4), (38, .aload_n 0, 0, 0), (39, .bipush 20, 0, 0), (41, .newarray .int, 0, 0), (43, .putfield 28, 1, 5), (46, .aload_n 0, 0, 0), (47, .bipush 20, 0, 0), (49, .newarray .int, 0, 0), (51, .putfield 31, 1, 6), (54, .aload_n 0, 0, 0), (55, .bipush 20, 0, 0), (57, .newarray .int, 0, 0), (59, .putfield 34, 1, 7), (62, .aload_n 0, 0, 0), (63, .bipush 20, 0, 0), (65, .newarray .int, 0, 0), (67, .putfield 37, 1, 8), (70, .return_, 0, 0)]
/-- LayeredDrawing.Graph.putNode(II)I -/
def K_15 : List GE := [(0, .aload_n 0, 0, 0), (1, .getfield 9, 1, 0), (4, .bipush 12, 0, 0), (6, .if_icmp .lt 6, 12, 0), (9, .bipush (-2), 0, 0), (11, .ireturn, 0, 0), (12, .aload_n 0, 0, 0), (13, .getfield 18, 1, 2), (16, .aload_n 0, 0, 0), (17, .getfield 9, 1, 0), (20, .iload_n 1, 0, 0), (21, .iastore, 0, 0), (22, .aload_n 0, 0, 0), (23, .getfield 22, 1, 3), (26, .aload_n 0, 0, 0), (27, .getfield 9, 1, 0), (30, .iload_n 2, 0, 0), (31, .iastore, 0, 0), (32, .aload_n 0, 0, 0), (33, .dup, 0, 0), (34, .getfield 9, 1, 0), (37, .iconst 1, 0, 0), (38, .iadd, 0, 0), (39, .putfield 9, 1, 0), (42, .aload_n 0, 0, 0), (43, .getfield 9, 1, 0), (46, .iconst 1, 0, 0), (47, .isub, 0, 0), (48, .ireturn, 0, 0)]
/-- LayeredDrawing.Graph.putEdge(IIIII)I -/
def K_16 : List GE := [(0, .aload_n 0, 0, 0), (1, .getfield 15, 1, 1), (4, .bipush 20, 0, 0), (6, .if_icmp .lt 6, 12, 0), (9, .bipush (-2), 0, 0), (11, .ireturn, 0, 0), (12, .aload_n 0, 0, 0), (13, .getfield 25, 1, 4), (16, .aload_n 0, 0, 0), (17, .getfield 15, 1, 1), (20, .iload_n 1, 0, 0), (21, .iastore, 0, 0), (22, .aload_n 0, 0, 0), (23, .getfield 28, 1, 5), (26, .aload_n 0, 0, 0), (27, .getfield 15, 1, 1), (30, .iload_n 2, 0, 0), (31, .iastore, 0, 0), (32, .aload_n 0, 0, 0), (33, .getfield 31, 1, 6), (36, .aload_n 0, 0, 0), (37, .getfield 15, 1, 1), (40, .iload_n 3, 0, 0), (41, .iastore, 0, 0), (42, .aload_n 0, 0, 0), (43, .getfield 34, 1, 7), (46, .aload_n 0, 0, 0), (47, .getfield 15, 1, 1), (50, .iload 4, 0, 0), (52, .iastore, 0, 0), (53, .aload_n 0, 0, 0), (54, .getfield 37, 1, 8), (57, .aload_n 0, 0, 0), (58, .getfield 15, 1, 1), (61, .iload 5, 0, 0), (63, .iastore, 0, 0), (64, .aload_n 0, 0, 0), (65, .dup, 0, 0), (66, .getfield 15, 1, 1), (69, .iconst 1, 0, 0), (70, .iadd, 0, 0), (71, .putfield 15, 1, 1), (74, .aload_n 0, 0, 0), (75, .getfield 15, 1, 1), (78, .iconst 1, 0, 0), (79, .isub, 0, 0), (80, .ireturn, 0, 0)]
/-- LayeredDrawing.Graph.hasGroup(I)Z -/
def K_17 : List GE := [(0, .iconst 0, 0, 0), (1, .istore_n 2, 0, 0), (2, .iload_n 2, 0, 0), (3, .aload_n 0, 0, 0), (4, .getfield 9, 1, 0), (7, .if_icmp .ge 21, 28, 0), (10, .aload_n 0, 0, 0), (11, .getfield 22, 1, 3), (14, .iload_n 2, 0, 0), (15, .iaload, 0, 0), (16, .iload_n 1, 0, 0), (17, .if_icmp .ne 5, 22, 0), (20, .iconst 1, 0, 0), (21, .ireturn, 0, 0), (22, .iinc 2 1, 0, 0), (25, .goto (-23), 2, 0), (28, .iconst 0, 0, 0), (29, .ireturn, 0, 0)]
/-- LayeredDrawing.Graph.copyFrom(LLayeredDrawing$Graph;)V -/
def K_18 : List GE := [(0, .aload_n 0, 0, 0), (1, .aload_n 1, 0, 0), (2, .getfield 9, 1, 0), (5, .putfield 9, 1, 0), (8, .aload_n 0, 0, 0), (9, .aload_n 1, 0, 0), (10, .getfield 15, 1, 1), (13, .putfield 15, 1, 1), (16, .aload_n 1, 0, 0), (17, .getfield 18, 1, 2), (20, .iconst 0, 0, 0), (21, .aload_n 0, 0, 0), (22, .getfield 18, 1, 2), (25, .iconst 0, 0, 0), (26, .bipush 12, 0, 0), (28, .invokestatic 40, 1001, 5), (31, .aload_n 1, 0, 0), (32, .getfield 22, 1, 3), (35, .iconst 0, 0, 0), (36, .aload_n 0, 0, 0), (37, .getfield 22, 1, 3), (40, .iconst 0, 0, 0), (41, .bipush 12, 0, 0), (43, .invokestatic 40, 1001, 5), (46, .aload_n 1, 0, 0), (47, .getfield 25, 1, 4), (50, .iconst 0, 0, 0), (51, .aload_n 0, 0, 0), (52, .getfield 25, 1, 4), (55, .iconst 0, 0, 0), (56, .bipush 20, 0, 0), (58, .invokestatic 40, 1001, 5), (61, .aload_n 1, 0, 0), (62, .getfield 28, 1, 5), (65, .iconst 0, 0, 0), (66, .aload_n 0, 0, 0), (67, .getfield 28, 1, 5), (70, .iconst 0, 0, 0), (71, .bipush 20, 0, 0), (73, .invokestatic 40, 1001, 5), (76, .aload_n 1, 0, 0), (77, .getfield 31, 1, 6), (80, .iconst 0, 0, 0), (81, .aload_n 0, 0, 0), (82, .getfield 31, 1, 6), (85, .iconst 0, 0, 0), (86, .bipush 20, 0, 0), (88, .invokestatic 40, 1001, 5), (91, .aload_n 1, 0, 0), (92, .getfield 34, 1, 7), (95, .iconst 0, 0, 0), (96, .aload_n 0, 0, 0), (97, .getfield 34, 1, 7), (100, .iconst 0, 0, 0), (101, .bipush 20, 0, 0), (103, .invokestatic 40, 1001, 5), (106, .aload_n 1, 0, 0), (107, .getfield 37, 1, 8), (110, .iconst 0, 0, 0), (111, .aload_n 0, 0, 0), (112, .getfield 37, 1, 8), (115, .iconst 0, 0, 0), (116, .bipush 20, 0, 0), (118, .invokestatic 40, 1001, 5), (121, .return_, 0, 0)]
/-- LayeredDrawing.Layering.<init>(LLayeredDrawing$Graph;)V -/
def K_19 : List GE := [(0, .aload_n 0, 0, 0), (1, .invokespecial 3, 1000, 1), (4, .aload_n 0, 0, 0), (5, .iconst 0, 0, 0), (6, .putfield 9, 2, 1), (9, .aload_n 0, 0, 0), (10, .bipush 20, 0, 0), (12, .newarray .boolean, 0, 0), (14, .putfield 15, 2, 2), (17, .aload_n 0, 0, 0), (18, .bipush 20, 0, 0), (20, .newarray .int, 0, 0), (22, .putfield 19, 2, 3), (25, .aload_n 0, 0, 0), (26, .bipush 20, 0, 0), (28, .newarray .int, 0, 0), (30, .putfield 23, 2, 4), (33, .aload_n 0, 0, 0), (34, .bipush 12, 0, 0), (36, .newarray .int, 0, 0), (38, .putfield 26, 2, 5), (41, .aload_n 0, 0, 0), (42, .bipush 20, 0, 0), (44, .newarray .int, 0, 0), (46, .putfield 29, 2, 6), (49, .aload_n 0, 0, 0), (50, .bipush 20, 0, 0), (52, .newarray .int, 0, 0), (54, .putfield 32, 2, 7), (57, .aload_n 0, 0, 0), (58, .bipush 12, 0, 0), (60, .newarray .int, 0, 0), (62, .putfield 35, 2, 8), (65, .aload_n 0, 0, 0), (66, .bipush 20, 0, 0), (68, .newarray .int, 0, 0), (70, .putfield 38, 2, 9), (73, .aload_n 0, 0, 0), (74, .bipush 12, 0, 0), (76, .newarray .int, 0, 0), (78, .putfield 41, 2, 10), (81, .aload_n 0, 0, 0), (82, .aload_n 1, 0, 0), (83, .putfield 44, 2, 0), (86, .return_, 0, 0)]
/-- LayeredDrawing.Layering.compute()V -/
def K_20 : List GE := [(0, .aload_n 0, 0, 0), (1, .invokevirtual 48, 25, 1), (4, .aload_n 0, 0, 0), (5, .invokevirtual 51, 27, 1), (8, .aload_n 0, 0, 0), (9, .iconst 0, 0, 0), (10, .putfield 9, 2, 1), (13, .iconst 0, 0, 0), (14, .istore_n 1, 0, 0), (15, .iload_n 1, 0, 0), (16, .aload_n 0, 0, 0), (17, .getfield 44, 2, 0), (20, .getfield 54, 1, 0), (23, .if_icmp .ge 28, 51, 0), (26, .aload_n 0, 0, 0), (27, .aload_n 0, 0, 0), (28, .getfield 9, 2, 1), (31, .aload_n 0, 0, 0), (32, .getfield 26, 2, 5), (35, .iload_n 1, 0, 0), (36, .iaload, 0, 0), (37, .iconst 1, 0, 0), (38, .iadd, 0, 0), (39, .invokestatic 59, 1003, 2), (42, .putfield 9, 2, 1), (45, .iinc 1 1, 0, 0), (48, .goto (-33), 15, 0), (51, .iconst 0, 0, 0), (52, .istore_n 1, 0, 0), (53, .iload_n 1, 0, 0), (54, .aload_n 0, 0, 0), (55, .getfield 44, 2, 0), (58, .getfield 65, 1, 1), (61, .if_icmp .ge 43, 104, 0), (64, .aload_n 0, 0, 0), (65, .getfield 29, 2, 6), (68, .iload_n 1, 0, 0), (69, .aload_n 0, 0, 0), (70, .getfield 26, 2, 5), (73, .aload_n 0, 0, 0), (74, .getfield 19, 2, 3), (77, .iload_n 1, 0, 0), (78, .iaload, 0, 0), (79, .iaload, 0, 0), (80, .iastore, 0, 0), (81, .aload_n 0, 0, 0), (82, .getfield 32, 2, 7), (85, .iload_n 1, 0, 0), (86, .aload_n 0, 0, 0), (87, .getfield 26, 2, 5), (90, .aload_n 0, 0, 0), (91, .getfield 23, 2, 4), (94, .iload_n 1, 0, 0), (95, .iaload, 0, 0), (96, .iaload, 0, 0), (97, .iastore, 0, 0), (98, .iinc 1 1, 0, 0), (101, .goto (-48), 53, 0), (104, .return_, 0, 0)]
/-- LayeredDrawing.Layering.span(I)I -/
def K_21 : List GE := [(0, .aload_n 0, 0, 0), (1, .getfield 32, 2, 7), (4, .iload_n 1, 0, 0), (5, .iaload, 0, 0), (6, .aload_n 0, 0, 0), (7, .getfield 29, 2, 6), (10, .iload_n 1, 0, 0), (11, .iaload, 0, 0), (12, .isub, 0, 0), (13, .ireturn, 0, 0)]
/-- LayeredDrawing.Layering.spanOfAll()I -/
def K_22 : List GE := [(0, .iconst 0, 0, 0), (1, .istore_n 1, 0, 0), (2, .iconst 0, 0, 0), (3, .istore_n 2, 0, 0), (4, .iload_n 2, 0, 0), (5, .aload_n 0, 0, 0), (6, .getfield 44, 2, 0), (9, .getfield 65, 1, 1), (12, .if_icmp .ge 17, 29, 0), (15, .iload_n 1, 0, 0), (16, .aload_n 0, 0, 0), (17, .iload_n 2, 0, 0), (18, .invokevirtual 68, 21, 2), (21, .iadd, 0, 0), (22, .istore_n 1, 0, 0), (23, .iinc 2 1, 0, 0), (26, .goto (-22), 4, 0), (29, .iload_n 1, 0, 0), (30, .ireturn, 0, 0)]
/-- LayeredDrawing.Layering.upperPort(I)I -/
def K_23 : List GE := [(0, .aload_n 0, 0, 0), (1, .getfield 15, 2, 2), (4, .iload_n 1, 0, 0), (5, .baload, 0, 0), (6, .ifCond .eq 15, 21, 0), (9, .aload_n 0, 0, 0), (10, .getfield 44, 2, 0), (13, .getfield 72, 1, 7), (16, .iload_n 1, 0, 0), (17, .iaload, 0, 0), (18, .goto 12, 30, 0), (21, .aload_n 0, 0, 0), (22, .getfield 44, 2, 0), (25, .getfield 75, 1, 6), (28, .iload_n 1, 0, 0), (29, .iaload, 0, 0), (30, .ireturn, 0, 0)]
/-- LayeredDrawing.Layering.lowerPort(I)I -/
def K_24 : List GE := [(0, .aload_n 0, 0, 0), (1, .getfield 15, 2, 2), (4, .iload_n 1, 0, 0), (5, .baload, 0, 0), (6, .ifCond .eq 15, 21, 0), (9, .aload_n 0, 0, 0), (10, .getfield 44, 2, 0), (13, .getfield 75, 1, 6), (16, .iload_n 1, 0, 0), (17, .iaload, 0, 0), (18, .goto 12, 30, 0), (21, .aload_n 0, 0, 0), (22, .getfield 44, 2, 0), (25, .getfield 72, 1, 7), (28, .iload_n 1, 0, 0), (29, .iaload, 0, 0), (30, .ireturn, 0, 0)]
/-- LayeredDrawing.Layering.findDirections()V -/
def K_25 : List GE := [(0, .aload_n 0, 0, 0), (1, .getfield 35, 2, 8), (4, .iconst 0, 0, 0), (5, .invokestatic 78, 226, 2), (8, .iconst 0, 0, 0), (9, .istore_n 1, 0, 0), (10, .iload_n 1, 0, 0), (11, .aload_n 0, 0, 0), (12, .getfield 44, 2, 0), (15, .getfield 65, 1, 1), (18, .if_icmp .ge 16, 34, 0), (21, .aload_n 0, 0, 0), (22, .getfield 15, 2, 2), (25, .iload_n 1, 0, 0), (26, .iconst 0, 0, 0), (27, .bastore, 0, 0), (28, .iinc 1 1, 0, 0), (31, .goto (-21), 10, 0), (34, .iconst 0, 0, 0), (35, .istore_n 1, 0, 0), (36, .iload_n 1, 0, 0), (37, .aload_n 0, 0, 0), (38, .getfield 44, 2, 0), (41, .getfield 54, 1, 0), (44, .if_icmp .ge 24, 68, 0), (47, .aload_n 0, 0, 0), (48, .getfield 35, 2, 8), (51, .iload_n 1, 0, 0), (52, .iaload, 0, 0), (53, .ifCond .ne 9, 62, 0), (56, .aload_n 0, 0, 0), (57, .iload_n 1, 0, 0), (58, .iconst 0, 0, 0), (59, .invokestatic 84, 26, 3), (62, .iinc 1 1, 0, 0), (65, .goto (-29), 36, 0), (68, .iconst 0, 0, 0), (69, .istore_n 1, 0, 0), (70, .iload_n 1, 0, 0), (71, .aload_n 0, 0, 0), (72, .getfield 44, 2, 0), (75, .getfield 65, 1, 1), (78, .if_icmp .ge 81, 159, 0), (81, .aload_n 0, 0, 0), (82, .getfield 19, 2, 3), (85, .iload_n 1, 0, 0), (86, .aload_n 0, 0, 0), (87, .getfield 15, 2, 2), (90, .iload_n 1, 0, 0), (91, .baload, 0, 0), (92, .ifCond .eq 15, 107, 0), (95, .aload_n 0, 0, 0), (96, .getfield 44, 2, 0), (99, .getfield 88, 1, 5), (102, .iload_n 1, 0, 0), (103, .iaload, 0, 0), (104, .goto 12, 116, 0), (107, .aload_n 0, 0, 0), (108, .getfield 44, 2, 0), (111, .getfield 91, 1, 4), (114, .iload_n 1, 0, 0), (115, .iaload, 0, 0), (116, .iastore, 0, 0), (117, .aload_n 0, 0, 0), (118, .getfield 23, 2, 4), (121, .iload_n 1, 0, 0), (122, .aload_n 0, 0, 0), (123, .getfield 15, 2, 2), (126, .iload_n 1, 0, 0), (127, .baload, 0, 0), (128, .ifCond .eq 15, 143, 0), (131, .aload_n 0, 0, 0), (132, .getfield 44, 2, 0), (135, .getfield 91, 1, 4), (138, .iload_n 1, 0, 0), (139, .iaload, 0, 0), (140, .goto 12, 152, 0), (143, .aload_n 0, 0, 0), (144, .getfield 44, 2, 0), (147, .getfield 88, 1, 5), (150, .iload_n 1, 0, 0), (151, .iaload, 0, 0), (152, .iastore, 0, 0), (153, .iinc 1 1, 0, 0), (156, .goto (-86), 70, 0), (159, .return_, 0, 0)]
/-- LayeredDrawing.Layering.visitNode(LLayeredDrawing$Layering;II)V -/
def K_26 : List GE := [(0, .iload_n 2, 0, 0), (1, .bipush 12, 0, 0), (3, .if_icmp .lt 4, 7, 0), (6, .return_, 0, 0), (7, .aload_n 0, 0, 0), (8, .getfield 35, 2, 8), (11, .iload_n 1, 0, 0), (12, .iconst 1, 0, 0), (13, .iastore, 0, 0), (14, .iconst 0, 0, 0), (15, .istore_n 3, 0, 0), (16, .iload_n 3, 0, 0), (17, .aload_n 0, 0, 0), (18, .getfield 44, 2, 0), (21, .getfield 65, 1, 1), (24, .if_icmp .ge 73, 97, 0), (27, .aload_n 0, 0, 0), (28, .getfield 44, 2, 0), (31, .getfield 91, 1, 4), (34, .iload_n 3, 0, 0), (35, .iaload, 0, 0), (36, .iload_n 1, 0, 0), (37, .if_icmp .ne 54, 91, 0), (40, .aload_n 0, 0, 0), (41, .getfield 44, 2, 0), (44, .getfield 88, 1, 5), (47, .iload_n 3, 0, 0), (48, .iaload, 0, 0), (49, .istore 4, 0, 0), (51, .aload_n 0, 0, 0), (52, .getfield 35, 2, 8), (55, .iload 4, 0, 0), (57, .iaload, 0, 0), (58, .ifCond .ne 15, 73, 0), (61, .aload_n 0, 0, 0), (62, .iload 4, 0, 0), (64, .iload_n 2, 0, 0), (65, .iconst 1, 0, 0), (66, .iadd, 0, 0), (67, .invokestatic 84, 26, 3), (70, .goto 21, 91, 0), (73, .aload_n 0, 0, 0), (74, .getfield 35, 2, 8), (77, .iload 4, 0, 0), (79, .iaload, 0, 0), (80, .iconst 1, 0, 0), (81, .if_icmp .ne 10, 91, 0), (84, .aload_n 0, 0, 0), (85, .getfield 15, 2, 2), (88, .iload_n 3, 0, 0), (89, .iconst 1, 0, 0), (90, .bastore, 0, 0), (91, .iinc 3 1, 0, 0), (94, .goto (-78), 16, 0), (97, .aload_n 0, 0, 0), (98, .getfield 35, 2, 8), (101, .iload_n 1, 0, 0), (102, .iconst 2, 0, 0), (103, .iastore, 0, 0), (104, .return_, 0, 0)]
/-- LayeredDrawing.Layering.findLayers()V -/
def K_27 : List GE := [(0, .aload_n 0, 0, 0), (1, .getfield 38, 2, 9), (4, .iconst 1, 0, 0), (5, .invokestatic 78, 226, 2), (8, .iconst 0, 0, 0), (9, .istore_n 1, 0, 0), (10, .iload_n 1, 0, 0), (11, .sipush 10000, 0, 0), (14, .if_icmp .ge 27, 41, 0), (17, .aload_n 0, 0, 0), (18, .invokevirtual 94, 28, 1), (21, .istore_n 2, 0, 0), (22, .iload_n 2, 0, 0), (23, .ifCond .lt 11, 34, 0), (26, .aload_n 0, 0, 0), (27, .iload_n 2, 0, 0), (28, .invokevirtual 98, 30, 2), (31, .ifCond .ne 4, 35, 0), (34, .return_, 0, 0), (35, .iinc 1 1, 0, 0), (38, .goto (-28), 10, 0), (41, .return_, 0, 0)]
/-- LayeredDrawing.Layering.pushDown()I -/
def K_28 : List GE := [(0, .aload_n 0, 0, 0), (1, .getfield 26, 2, 5), (4, .iconst 0, 0, 0), (5, .invokestatic 78, 226, 2), (8, .aload_n 0, 0, 0), (9, .getfield 41, 2, 10), (12, .iconst (-1), 0, 0), (13, .invokestatic 78, 226, 2), (16, .iconst (-1), 0, 0), (17, .istore_n 1, 0, 0), (18, .iconst 0, 0, 0), (19, .istore_n 2, 0, 0), (20, .iload_n 2, 0, 0), (21, .aload_n 0, 0, 0), (22, .getfield 44, 2, 0), (25, .getfield 54, 1, 0), (28, .if_icmp .ge 20, 48, 0), (31, .aload_n 0, 0, 0), (32, .invokevirtual 102, 29, 1), (35, .istore_n 1, 0, 0), (36, .iload_n 1, 0, 0), (37, .ifCond .ge 5, 42, 0), (40, .iconst (-1), 0, 0), (41, .ireturn, 0, 0), (42, .iinc 2 1, 0, 0), (45, .goto (-25), 20, 0), (48, .iload_n 1, 0, 0), (49, .ireturn, 0, 0)]
/-- LayeredDrawing.Layering.pushOnce()I -/
def K_29 : List GE := [(0, .iconst (-1), 0, 0), (1, .istore_n 1, 0, 0), (2, .iconst 0, 0, 0), (3, .istore_n 2, 0, 0), (4, .iload_n 2, 0, 0), (5, .aload_n 0, 0, 0), (6, .getfield 44, 2, 0), (9, .getfield 65, 1, 1), (12, .if_icmp .ge 111, 123, 0), (15, .aload_n 0, 0, 0), (16, .getfield 26, 2, 5), (19, .aload_n 0, 0, 0), (20, .getfield 23, 2, 4), (23, .iload_n 2, 0, 0), (24, .iaload, 0, 0), (25, .iaload, 0, 0), (26, .aload_n 0, 0, 0), (27, .getfield 26, 2, 5), (30, .aload_n 0, 0, 0), (31, .getfield 19, 2, 3), (34, .iload_n 2, 0, 0), (35, .iaload, 0, 0), (36, .iaload, 0, 0), (37, .isub, 0, 0), (38, .aload_n 0, 0, 0), (39, .getfield 44, 2, 0), (42, .getfield 105, 1, 8), (45, .iload_n 2, 0, 0), (46, .iaload, 0, 0), (47, .isub, 0, 0), (48, .istore_n 3, 0, 0), (49, .iload_n 3, 0, 0), (50, .ifCond .ge 30, 80, 0), (53, .aload_n 0, 0, 0), (54, .getfield 23, 2, 4), (57, .iload_n 2, 0, 0), (58, .iaload, 0, 0), (59, .istore_n 1, 0, 0), (60, .aload_n 0, 0, 0), (61, .getfield 26, 2, 5), (64, .iload_n 1, 0, 0), (65, .dup2, 0, 0), (66, .iaload, 0, 0), (67, .iload_n 3, 0, 0), (68, .isub, 0, 0), (69, .iastore, 0, 0), (70, .aload_n 0, 0, 0), (71, .getfield 41, 2, 10), (74, .iload_n 1, 0, 0), (75, .iload_n 2, 0, 0), (76, .iastore, 0, 0), (77, .goto 40, 117, 0), (80, .iload_n 3, 0, 0), (81, .ifCond .le 36, 117, 0), (84, .aload_n 0, 0, 0), (85, .getfield 38, 2, 9), (88, .iload_n 2, 0, 0), (89, .iaload, 0, 0), (90, .ifCond .le 27, 117, 0), (93, .aload_n 0, 0, 0), (94, .getfield 19, 2, 3), (97, .iload_n 2, 0, 0), (98, .iaload, 0, 0), (99, .istore_n 1, 0, 0), (100, .aload_n 0, 0, 0), (101, .getfield 26, 2, 5), (104, .iload_n 1, 0, 0), (105, .dup2, 0, 0), (106, .iaload, 0, 0), (107, .iload_n 3, 0, 0), (108, .iadd, 0, 0), (109, .iastore, 0, 0), (110, .aload_n 0, 0, 0), (111, .getfield 41, 2, 10), (114, .iload_n 1, 0, 0), (115, .iload_n 2, 0, 0), (116, .iastore, 0, 0), (117, .iinc 2 1, 0, 0), (120, .goto (-116), 4, 0), (123, .iload_n 1, 0, 0), (124, .ireturn, 0, 0)]
/-- LayeredDrawing.Layering.betterFlow(I)Z -/
def K_30 : List GE := [(0, .iload_n 1, 0, 0), (1, .istore_n 2, 0, 0), (2, .iconst 0, 0, 0), (3, .istore_n 3, 0, 0), (4, .iload_n 3, 0, 0), (5, .aload_n 0, 0, 0), (6, .getfield 44, 2, 0), (9, .getfield 54, 1, 0), (12, .if_icmp .ge 21, 33, 0), (15, .aload_n 0, 0, 0), (16, .iload_n 2, 0, 0), (17, .invokevirtual 108, 31, 2), (20, .istore_n 2, 0, 0), (21, .iload_n 2, 0, 0), (22, .ifCond .ge 5, 27, 0), (25, .iconst 0, 0, 0), (26, .ireturn, 0, 0), (27, .iinc 3 1, 0, 0), (30, .goto (-26), 4, 0), (33, .aload_n 0, 0, 0), (34, .iload_n 2, 0, 0), (35, .invokevirtual 111, 32, 2), (38, .istore_n 3, 0, 0), (39, .iload_n 3, 0, 0), (40, .iconst 1, 0, 0), (41, .if_icmp .ge 5, 46, 0), (44, .iconst 0, 0, 0), (45, .ireturn, 0, 0), (46, .aload_n 0, 0, 0), (47, .iload_n 2, 0, 0), (48, .iload_n 3, 0, 0), (49, .invokevirtual 114, 33, 3), (52, .iconst 1, 0, 0), (53, .ireturn, 0, 0)]
/-- LayeredDrawing.Layering.pusherOf(I)I -/
def K_31 : List GE := [(0, .aload_n 0, 0, 0), (1, .getfield 41, 2, 10), (4, .iload_n 1, 0, 0), (5, .iaload, 0, 0), (6, .istore_n 2, 0, 0), (7, .iload_n 2, 0, 0), (8, .ifCond .ge 5, 13, 0), (11, .iconst (-1), 0, 0), (12, .ireturn, 0, 0), (13, .aload_n 0, 0, 0), (14, .getfield 23, 2, 4), (17, .iload_n 2, 0, 0), (18, .iaload, 0, 0), (19, .iload_n 1, 0, 0), (20, .if_icmp .ne 12, 32, 0), (23, .aload_n 0, 0, 0), (24, .getfield 19, 2, 3), (27, .iload_n 2, 0, 0), (28, .iaload, 0, 0), (29, .goto 9, 38, 0), (32, .aload_n 0, 0, 0), (33, .getfield 23, 2, 4), (36, .iload_n 2, 0, 0), (37, .iaload, 0, 0), (38, .ireturn, 0, 0)]
/-- LayeredDrawing.Layering.flowOfCycle(I)I -/
def K_32 : List GE := [(0, .ldc 118, 0, 1073741824), (2, .istore_n 2, 0, 0), (3, .iload_n 1, 0, 0), (4, .istore_n 3, 0, 0), (5, .iconst 0, 0, 0), (6, .istore 4, 0, 0), (8, .iload 4, 0, 0), (10, .bipush 12, 0, 0), (12, .if_icmp .ge 70, 82, 0), (15, .aload_n 0, 0, 0), (16, .getfield 41, 2, 10), (19, .iload_n 3, 0, 0), (20, .iaload, 0, 0), (21, .istore 5, 0, 0), (23, .iload 5, 0, 0), (25, .ifCond .ge 5, 30, 0), (28, .iconst 0, 0, 0), (29, .ireturn, 0, 0), (30, .aload_n 0, 0, 0), (31, .getfield 19, 2, 3), (34, .iload 5, 0, 0), (36, .iaload, 0, 0), (37, .iload_n 3, 0, 0), (38, .if_icmp .ne 15, 53, 0), (41, .iload_n 2, 0, 0), (42, .aload_n 0, 0, 0), (43, .getfield 38, 2, 9), (46, .iload 5, 0, 0), (48, .iaload, 0, 0), (49, .invokestatic 119, 1004, 2), (52, .istore_n 2, 0, 0), (53, .aload_n 0, 0, 0), (54, .iload_n 3, 0, 0), (55, .invokevirtual 108, 31, 2), (58, .istore_n 3, 0, 0), (59, .iload_n 3, 0, 0), (60, .iload_n 1, 0, 0), (61, .if_icmp .ne 15, 76, 0), (64, .iload_n 2, 0, 0), (65, .ldc 118, 0, 1073741824), (67, .if_icmp .ne 7, 74, 0), (70, .iconst 0, 0, 0), (71, .goto 4, 75, 0), (74, .iload_n 2, 0, 0), (75, .ireturn, 0, 0), (76, .iinc 4 1, 0, 0), (79, .goto (-71), 8, 0), (82, .iconst 0, 0, 0), (83, .ireturn, 0, 0)]
/-- LayeredDrawing.Layering.moveFlow(II)V -/
def K_33 : List GE := [(0, .iload_n 1, 0, 0), (1, .istore_n 3, 0, 0), (2, .iconst 0, 0, 0), (3, .istore 4, 0, 0), (5, .iload 4, 0, 0), (7, .bipush 12, 0, 0), (9, .if_icmp .ge 62, 71, 0), (12, .aload_n 0, 0, 0), (13, .getfield 41, 2, 10), (16, .iload_n 3, 0, 0), (17, .iaload, 0, 0), (18, .istore 5, 0, 0), (20, .iload 5, 0, 0), (22, .ifCond .ge 4, 26, 0), (25, .return_, 0, 0), (26, .aload_n 0, 0, 0), (27, .getfield 38, 2, 9), (30, .iload 5, 0, 0), (32, .dup2, 0, 0), (33, .iaload, 0, 0), (34, .aload_n 0, 0, 0), (35, .getfield 19, 2, 3), (38, .iload 5, 0, 0), (40, .iaload, 0, 0), (41, .iload_n 3, 0, 0), (42, .if_icmp .ne 8, 50, 0), (45, .iload_n 2, 0, 0), (46, .ineg, 0, 0), (47, .goto 4, 51, 0), (50, .iload_n 2, 0, 0), (51, .iadd, 0, 0), (52, .iastore, 0, 0), (53, .aload_n 0, 0, 0), (54, .iload_n 3, 0, 0), (55, .invokevirtual 108, 31, 2), (58, .istore_n 3, 0, 0), (59, .iload_n 3, 0, 0), (60, .iload_n 1, 0, 0), (61, .if_icmp .ne 4, 65, 0), (64, .return_, 0, 0), (65, .iinc 4 1, 0, 0), (68, .goto (-63), 5, 0), (71, .return_, 0, 0)]
/-- LayeredDrawing.Order.<init>(LLayeredDrawing$Graph;LLayeredDrawing$Layering;)V -/
def K_34 : List GE := [(0, .aload_n 0, 0, 0), (1, .invokespecial 3, 1000, 1), (4, .aload_n 0, 0, 0), (5, .iconst 0, 0, 0), (6, .putfield 9, 3, 2), (9, .aload_n 0, 0, 0), (10, .bipush 60, 0, 0), (12, .newarray .int, 0, 0), (14, .putfield 15, 3, 3), (17, .aload_n 0, 0, 0), (18, .bipush 60, 0, 0), (20, .newarray .int, 0, 0), (22, .putfield 19, 3, 4), (25, .aload_n 0, 0, 0), (26, .bipush 20, 0, 0), (28, .newarray .int, 0, 0), (30, .putfield 22, 3, 5), (33, .aload_n 0, 0, 0), (34, .bipush 35, 0, 0), (36, .newarray .int, 0, 0), (38, .putfield 25, 3, 6), (41, .aload_n 0, 0, 0), (42, .bipush 60, 0, 0), (44, .newarray .int, 0, 0), (46, .putfield 28, 3, 7), (49, .aload_n 0, 0, 0), (50, .bipush 60, 0, 0), (52, .newarray .int, 0, 0), (54, .putfield 31, 3, 8), (57, .aload_n 0, 0, 0), (58, .bipush 60, 0, 0), (60, .newarray .int, 0, 0), (62, .putfield 34, 3, 9), (65, .aload_n 0, 0, 0), (66, .bipush 60, 0, 0), (68, .newarray .int, 0, 0), (70, .putfield 37, 3, 10), (73, .aload_n 0, 0, 0), (74, .bipush 60, 0, 0), (76, .newarray .int, 0, 0), (78, .putfield 40, 3, 11), (81, .aload_n 0, 0, 0), (82, .bipush 60, 0, 0), (84, .newarray .int, 0, 0), (86, .putfield 43, 3, 12), (89, .aload_n 0, 0, 0), (90, .bipush 60, 0, 0), (92, .newarray .int, 0, 0), (94, .putfield 46, 3, 13), (97, .aload_n 0, 0, 0), (98, .bipush 20, 0, 0), (100, .newarray .int, 0, 0), (102, .putfield 49, 3, 14), (105, .aload_n 0, 0, 0), (106, .bipush 20, 0, 0), (108, .newarray .int, 0, 0), (110, .putfield 52, 3, 15), (113, .aload_n 0, 0, 0), (114, .aload_n 1, 0, 0), (115, .putfield 55, 3, 0), (118, .aload_n 0, 0, 0), (119, .aload_n 2, 0, 0), (120, .putfield 59, 3, 1), (123, .return_, 0, 0)]
/-- LayeredDrawing.Order.build()V -/
def K_35 : List GE := [(0, .aload_n 0, 0, 0), (1, .iconst 0, 0, 0), (2, .putfield 9, 3, 2), (5, .iconst 0, 0, 0), (6, .istore_n 1, 0, 0), (7, .iload_n 1, 0, 0), (8, .aload_n 0, 0, 0), (9, .getfield 55, 3, 0), (12, .getfield 63, 1, 0), (15, .if_icmp .ge 23, 38, 0), (18, .aload_n 0, 0, 0), (19, .iload_n 1, 0, 0), (20, .aload_n 0, 0, 0), (21, .getfield 59, 3, 1), (24, .getfield 68, 2, 5), (27, .iload_n 1, 0, 0), (28, .iaload, 0, 0), (29, .invokevirtual 73, 36, 3), (32, .iinc 1 1, 0, 0), (35, .goto (-28), 7, 0), (38, .iconst 0, 0, 0), (39, .istore_n 1, 0, 0), (40, .iload_n 1, 0, 0), (41, .aload_n 0, 0, 0), (42, .getfield 55, 3, 0), (45, .getfield 77, 1, 1), (48, .if_icmp .ge 66, 114, 0), (51, .aload_n 0, 0, 0), (52, .getfield 22, 3, 5), (55, .iload_n 1, 0, 0), (56, .aload_n 0, 0, 0), (57, .getfield 9, 3, 2), (60, .iastore, 0, 0), (61, .aload_n 0, 0, 0), (62, .getfield 59, 3, 1), (65, .getfield 80, 2, 7), (68, .iload_n 1, 0, 0), (69, .iaload, 0, 0), (70, .istore_n 2, 0, 0), (71, .aload_n 0, 0, 0), (72, .getfield 59, 3, 1), (75, .getfield 83, 2, 6), (78, .iload_n 1, 0, 0), (79, .iaload, 0, 0), (80, .iconst 1, 0, 0), (81, .iadd, 0, 0), (82, .istore_n 3, 0, 0), (83, .iload_n 3, 0, 0), (84, .iload_n 2, 0, 0), (85, .if_icmp .ge 23, 108, 0), (88, .aload_n 0, 0, 0), (89, .bipush 100, 0, 0), (91, .bipush 40, 0, 0), (93, .iload_n 1, 0, 0), (94, .imul, 0, 0), (95, .iadd, 0, 0), (96, .iload_n 3, 0, 0), (97, .iadd, 0, 0), (98, .iload_n 3, 0, 0), (99, .invokevirtual 73, 36, 3), (102, .iinc 3 1, 0, 0), (105, .goto (-22), 83, 0), (108, .iinc 1 1, 0, 0), (111, .goto (-71), 40, 0), (114, .aload_n 0, 0, 0), (115, .invokevirtual 86, 37, 1), (118, .iconst 0, 0, 0), (119, .istore_n 1, 0, 0), (120, .iload_n 1, 0, 0), (121, .aload_n 0, 0, 0), (122, .getfield 59, 3, 1), (125, .getfield 89, 2, 1), (128, .if_icmp .ge 14, 142, 0), (131, .aload_n 0, 0, 0), (132, .iload_n 1, 0, 0), (133, .invokevirtual 92, 51, 2), (136, .iinc 1 1, 0, 0), (139, .goto (-19), 120, 0), (142, .return_, 0, 0)]
/-- LayeredDrawing.Order.putVertex(II)V -/
def K_36 : List GE := [(0, .aload_n 0, 0, 0), (1, .getfield 9, 3, 2), (4, .bipush 60, 0, 0), (6, .if_icmp .ge 33, 39, 0), (9, .aload_n 0, 0, 0), (10, .getfield 15, 3, 3), (13, .aload_n 0, 0, 0), (14, .getfield 9, 3, 2), (17, .iload_n 1, 0, 0), (18, .iastore, 0, 0), (19, .aload_n 0, 0, 0), (20, .getfield 19, 3, 4), (23, .aload_n 0, 0, 0), (24, .getfield 9, 3, 2), (27, .iload_n 2, 0, 0), (28, .iastore, 0, 0), (29, .aload_n 0, 0, 0), (30, .dup, 0, 0), (31, .getfield 9, 3, 2), (34, .iconst 1, 0, 0), (35, .iadd, 0, 0), (36, .putfield 9, 3, 2), (39, .return_, 0, 0)]
/-- LayeredDrawing.Order.orderByNames()V -/
def K_37 : List GE := [(0, .iconst 0, 0, 0), (1, .istore_n 1, 0, 0), (2, .iconst 0, 0, 0), (3, .istore_n 2, 0, 0), (4, .iload_n 2, 0, 0), (5, .aload_n 0, 0, 0), (6, .getfield 59, 3, 1), (9, .getfield 89, 2, 1), (12, .if_icmp .ge 52, 64, 0), (15, .aload_n 0, 0, 0), (16, .getfield 25, 3, 6), (19, .iload_n 2, 0, 0), (20, .iload_n 1, 0, 0), (21, .iastore, 0, 0), (22, .iconst 0, 0, 0), (23, .istore_n 3, 0, 0), (24, .iload_n 3, 0, 0), (25, .aload_n 0, 0, 0), (26, .getfield 9, 3, 2), (29, .if_icmp .ge 29, 58, 0), (32, .aload_n 0, 0, 0), (33, .getfield 19, 3, 4), (36, .iload_n 3, 0, 0), (37, .iaload, 0, 0), (38, .iload_n 2, 0, 0), (39, .if_icmp .ne 13, 52, 0), (42, .aload_n 0, 0, 0), (43, .getfield 28, 3, 7), (46, .iload_n 1, 0, 0), (47, .iload_n 3, 0, 0), (48, .iastore, 0, 0), (49, .iinc 1 1, 0, 0), (52, .iinc 3 1, 0, 0), (55, .goto (-31), 24, 0), (58, .iinc 2 1, 0, 0), (61, .goto (-57), 4, 0), (64, .aload_n 0, 0, 0), (65, .getfield 25, 3, 6), (68, .aload_n 0, 0, 0), (69, .getfield 59, 3, 1), (72, .getfield 89, 2, 1), (75, .iload_n 1, 0, 0), (76, .iastore, 0, 0), (77, .return_, 0, 0)]
/-- LayeredDrawing.Order.named(I)I -/
def K_38 : List GE := [(0, .iload_n 1, 0, 0), (1, .bipush 100, 0, 0), (3, .if_icmp .ge 24, 27, 0), (6, .iload_n 1, 0, 0), (7, .ifCond .lt 18, 25, 0), (10, .iload_n 1, 0, 0), (11, .aload_n 0, 0, 0), (12, .getfield 55, 3, 0), (15, .getfield 63, 1, 0), (18, .if_icmp .ge 7, 25, 0), (21, .iload_n 1, 0, 0), (22, .goto 4, 26, 0), (25, .iconst (-1), 0, 0), (26, .ireturn, 0, 0), (27, .iload_n 1, 0, 0), (28, .bipush 100, 0, 0), (30, .isub, 0, 0), (31, .bipush 40, 0, 0), (33, .idiv, 0, 0), (34, .istore_n 2, 0, 0), (35, .iload_n 1, 0, 0), (36, .bipush 100, 0, 0), (38, .isub, 0, 0), (39, .bipush 40, 0, 0), (41, .irem, 0, 0), (42, .istore_n 3, 0, 0), (43, .iload_n 2, 0, 0), (44, .aload_n 0, 0, 0), (45, .getfield 55, 3, 0), (48, .getfield 77, 1, 1), (51, .if_icmp .ge 29, 80, 0), (54, .iload_n 3, 0, 0), (55, .aload_n 0, 0, 0), (56, .getfield 59, 3, 1), (59, .getfield 83, 2, 6), (62, .iload_n 2, 0, 0), (63, .iaload, 0, 0), (64, .if_icmp .le 16, 80, 0), (67, .iload_n 3, 0, 0), (68, .aload_n 0, 0, 0), (69, .getfield 59, 3, 1), (72, .getfield 80, 2, 7), (75, .iload_n 2, 0, 0), (76, .iaload, 0, 0), (77, .if_icmp .lt 5, 82, 0), (80, .iconst (-1), 0, 0), (81, .ireturn, 0, 0), (82, .aload_n 0, 0, 0), (83, .iload_n 2, 0, 0), (84, .iload_n 3, 0, 0), (85, .invokevirtual 96, 39, 3), (88, .ireturn, 0, 0)]
/-- LayeredDrawing.Order.onEdge(II)I -/
def K_39 : List GE := [(0, .iload_n 2, 0, 0), (1, .aload_n 0, 0, 0), (2, .getfield 59, 3, 1), (5, .getfield 83, 2, 6), (8, .iload_n 1, 0, 0), (9, .iaload, 0, 0), (10, .if_icmp .gt 13, 23, 0), (13, .aload_n 0, 0, 0), (14, .getfield 59, 3, 1), (17, .getfield 100, 2, 3), (20, .iload_n 1, 0, 0), (21, .iaload, 0, 0), (22, .ireturn, 0, 0), (23, .iload_n 2, 0, 0), (24, .aload_n 0, 0, 0), (25, .getfield 59, 3, 1), (28, .getfield 80, 2, 7), (31, .iload_n 1, 0, 0), (32, .iaload, 0, 0), (33, .if_icmp .lt 13, 46, 0), (36, .aload_n 0, 0, 0), (37, .getfield 59, 3, 1), (40, .getfield 103, 2, 4), (43, .iload_n 1, 0, 0), (44, .iaload, 0, 0), (45, .ireturn, 0, 0), (46, .aload_n 0, 0, 0), (47, .getfield 22, 3, 5), (50, .iload_n 1, 0, 0), (51, .iaload, 0, 0), (52, .iload_n 2, 0, 0), (53, .iadd, 0, 0), (54, .aload_n 0, 0, 0), (55, .getfield 59, 3, 1), (58, .getfield 83, 2, 6), (61, .iload_n 1, 0, 0), (62, .iaload, 0, 0), (63, .isub, 0, 0), (64, .iconst 1, 0, 0), (65, .isub, 0, 0), (66, .ireturn, 0, 0)]
/-- LayeredDrawing.Order.hasPartBelow(II)Z -/
def K_40 : List GE := [(0, .aload_n 0, 0, 0), (1, .getfield 59, 3, 1), (4, .getfield 83, 2, 6), (7, .iload_n 1, 0, 0), (8, .iaload, 0, 0), (9, .iload_n 2, 0, 0), (10, .if_icmp .gt 20, 30, 0), (13, .iload_n 2, 0, 0), (14, .aload_n 0, 0, 0), (15, .getfield 59, 3, 1), (18, .getfield 80, 2, 7), (21, .iload_n 1, 0, 0), (22, .iaload, 0, 0), (23, .if_icmp .ge 7, 30, 0), (26, .iconst 1, 0, 0), (27, .goto 4, 31, 0), (30, .iconst 0, 0, 0), (31, .ireturn, 0, 0)]
/-- LayeredDrawing.Order.groupAt(I)I -/
def K_41 : List GE := [(0, .iload_n 1, 0, 0), (1, .aload_n 0, 0, 0), (2, .getfield 55, 3, 0), (5, .getfield 63, 1, 0), (8, .if_icmp .ge 15, 23, 0), (11, .aload_n 0, 0, 0), (12, .getfield 55, 3, 0), (15, .getfield 106, 1, 3), (18, .iload_n 1, 0, 0), (19, .iaload, 0, 0), (20, .goto 4, 24, 0), (23, .iconst 0, 0, 0), (24, .ireturn, 0, 0)]
/-- LayeredDrawing.Order.widthAt(I)I -/
def K_42 : List GE := [(0, .iload_n 1, 0, 0), (1, .aload_n 0, 0, 0), (2, .getfield 55, 3, 0), (5, .getfield 63, 1, 0), (8, .if_icmp .ge 15, 23, 0), (11, .aload_n 0, 0, 0), (12, .getfield 55, 3, 0), (15, .getfield 109, 1, 2), (18, .iload_n 1, 0, 0), (19, .iaload, 0, 0), (20, .goto 4, 24, 0), (23, .iconst 1, 0, 0), (24, .ireturn, 0, 0)]
/-- LayeredDrawing.Order.sizeOf(I)I -/
def K_43 : List GE := [(0, .aload_n 0, 0, 0), (1, .getfield 25, 3, 6), (4, .iload_n 1, 0, 0), (5, .iconst 1, 0, 0), (6, .iadd, 0, 0), (7, .iaload, 0, 0), (8, .aload_n 0, 0, 0), (9, .getfield 25, 3, 6), (12, .iload_n 1, 0, 0), (13, .iaload, 0, 0), (14, .isub, 0, 0), (15, .ireturn, 0, 0)]
/-- LayeredDrawing.Order.at(II)I -/
def K_44 : List GE := [(0, .aload_n 0, 0, 0), (1, .getfield 28, 3, 7), (4, .aload_n 0, 0, 0), (5, .getfield 25, 3, 6), (8, .iload_n 1, 0, 0), (9, .iaload, 0, 0), (10, .iload_n 2, 0, 0), (11, .iadd, 0, 0), (12, .iaload, 0, 0), (13, .ireturn, 0, 0)]
/-- LayeredDrawing.Order.remember()V -/
def K_45 : List GE := [(0, .aload_n 0, 0, 0), (1, .getfield 28, 3, 7), (4, .iconst 0, 0, 0), (5, .aload_n 0, 0, 0), (6, .getfield 34, 3, 9), (9, .iconst 0, 0, 0), (10, .bipush 60, 0, 0), (12, .invokestatic 112, 1001, 5), (15, .return_, 0, 0)]
/-- LayeredDrawing.Order.isReordered()Z -/
def K_46 : List GE := [(0, .iconst 0, 0, 0), (1, .istore_n 1, 0, 0), (2, .iload_n 1, 0, 0), (3, .aload_n 0, 0, 0), (4, .getfield 9, 3, 2), (7, .if_icmp .ge 26, 33, 0), (10, .aload_n 0, 0, 0), (11, .getfield 28, 3, 7), (14, .iload_n 1, 0, 0), (15, .iaload, 0, 0), (16, .aload_n 0, 0, 0), (17, .getfield 34, 3, 9), (20, .iload_n 1, 0, 0), (21, .iaload, 0, 0), (22, .if_icmp .eq 5, 27, 0), (25, .iconst 1, 0, 0), (26, .ireturn, 0, 0), (27, .iinc 1 1, 0, 0), (30, .goto (-28), 2, 0), (33, .iconst 0, 0, 0), (34, .ireturn, 0, 0)]
/-- LayeredDrawing.Order.takeOrder([I)V -/
def K_47 : List GE := [(0, .aload_n 1, 0, 0), (1, .iconst 0, 0, 0), (2, .aload_n 0, 0, 0), (3, .getfield 28, 3, 7), (6, .iconst 0, 0, 0), (7, .bipush 60, 0, 0), (9, .invokestatic 112, 1001, 5), (12, .iconst 0, 0, 0), (13, .istore_n 2, 0, 0), (14, .iload_n 2, 0, 0), (15, .aload_n 0, 0, 0), (16, .getfield 59, 3, 1), (19, .getfield 89, 2, 1), (22, .if_icmp .ge 14, 36, 0), (25, .aload_n 0, 0, 0), (26, .iload_n 2, 0, 0), (27, .invokevirtual 118, 48, 2), (30, .iinc 2 1, 0, 0), (33, .goto (-19), 14, 0), (36, .return_, 0, 0)]
/-- LayeredDrawing.Order.setPlaces(I)V -/
def K_48 : List GE := [(0, .aload_n 0, 0, 0), (1, .getfield 25, 3, 6), (4, .iload_n 1, 0, 0), (5, .iaload, 0, 0), (6, .istore_n 2, 0, 0), (7, .iload_n 2, 0, 0), (8, .aload_n 0, 0, 0), (9, .getfield 25, 3, 6), (12, .iload_n 1, 0, 0), (13, .iconst 1, 0, 0), (14, .iadd, 0, 0), (15, .iaload, 0, 0), (16, .if_icmp .ge 28, 44, 0), (19, .aload_n 0, 0, 0), (20, .getfield 31, 3, 8), (23, .aload_n 0, 0, 0), (24, .getfield 28, 3, 7), (27, .iload_n 2, 0, 0), (28, .iaload, 0, 0), (29, .iload_n 2, 0, 0), (30, .aload_n 0, 0, 0), (31, .getfield 25, 3, 6), (34, .iload_n 1, 0, 0), (35, .iaload, 0, 0), (36, .isub, 0, 0), (37, .iastore, 0, 0), (38, .iinc 2 1, 0, 0), (41, .goto (-34), 7, 0), (44, .return_, 0, 0)]
/-- LayeredDrawing.Order.swap(II)V -/
def K_49 : List GE := [(0, .aload_n 0, 0, 0), (1, .getfield 25, 3, 6), (4, .iload_n 1, 0, 0), (5, .iaload, 0, 0), (6, .iload_n 2, 0, 0), (7, .iadd, 0, 0), (8, .istore_n 3, 0, 0), (9, .aload_n 0, 0, 0), (10, .getfield 28, 3, 7), (13, .iload_n 3, 0, 0), (14, .iaload, 0, 0), (15, .istore 4, 0, 0), (17, .aload_n 0, 0, 0), (18, .getfield 28, 3, 7), (21, .iload_n 3, 0, 0), (22, .iconst 1, 0, 0), (23, .iadd, 0, 0), (24, .iaload, 0, 0), (25, .istore 5, 0, 0), (27, .aload_n 0, 0, 0), (28, .getfield 28, 3, 7), (31, .iload_n 3, 0, 0), (32, .iload 5, 0, 0), (34, .iastore, 0, 0), (35, .aload_n 0, 0, 0), (36, .getfield 28, 3, 7), (39, .iload_n 3, 0, 0), (40, .iconst 1, 0, 0), (41, .iadd, 0, 0), (42, .iload 4, 0, 0), (44, .iastore, 0, 0), (45, .aload_n 0, 0, 0), (46, .getfield 31, 3, 8), (49, .iload 5, 0, 0), (51, .iload_n 2, 0, 0), (52, .iastore, 0, 0), (53, .aload_n 0, 0, 0), (54, .getfield 31, 3, 8), (57, .iload 4, 0, 0), (59, .iload_n 2, 0, 0), (60, .iconst 1, 0, 0), (61, .iadd, 0, 0), (62, .iastore, 0, 0), (63, .return_, 0, 0)]
/-- LayeredDrawing.Order.moveTo(II)V -/
def K_50 : List GE := [(0, .aload_n 0, 0, 0), (1, .getfield 19, 3, 4), (4, .iload_n 1, 0, 0), (5, .iaload, 0, 0), (6, .istore_n 3, 0, 0), (7, .aload_n 0, 0, 0), (8, .getfield 31, 3, 8), (11, .iload_n 1, 0, 0), (12, .iaload, 0, 0), (13, .istore 4, 0, 0), (15, .iload 4, 0, 0), (17, .iload_n 2, 0, 0), (18, .if_icmp .le 18, 36, 0), (21, .aload_n 0, 0, 0), (22, .iload_n 3, 0, 0), (23, .iload 4, 0, 0), (25, .iconst 1, 0, 0), (26, .isub, 0, 0), (27, .invokevirtual 121, 49, 3), (30, .iinc 4 (-1), 0, 0), (33, .goto (-18), 15, 0), (36, .aload_n 0, 0, 0), (37, .getfield 31, 3, 8), (40, .iload_n 1, 0, 0), (41, .iaload, 0, 0), (42, .istore 4, 0, 0), (44, .iload 4, 0, 0), (46, .iload_n 2, 0, 0), (47, .if_icmp .ge 16, 63, 0), (50, .aload_n 0, 0, 0), (51, .iload_n 3, 0, 0), (52, .iload 4, 0, 0), (54, .invokevirtual 121, 49, 3), (57, .iinc 4 1, 0, 0), (60, .goto (-16), 44, 0), (63, .return_, 0, 0)]
/-- LayeredDrawing.Order.closeGroups(I)V -/
def K_51 : List GE := [(0, .aload_n 0, 0, 0), (1, .getfield 25, 3, 6), (4, .iload_n 1, 0, 0), (5, .iaload, 0, 0), (6, .istore_n 2, 0, 0), (7, .iconst 0, 0, 0), (8, .istore_n 3, 0, 0), (9, .aload_n 0, 0, 0), (10, .getfield 25, 3, 6), (13, .iload_n 1, 0, 0), (14, .iaload, 0, 0), (15, .istore 4, 0, 0), (17, .iload 4, 0, 0), (19, .aload_n 0, 0, 0), (20, .getfield 25, 3, 6), (23, .iload_n 1, 0, 0), (24, .iconst 1, 0, 0), (25, .iadd, 0, 0), (26, .iaload, 0, 0), (27, .if_icmp .ge 80, 107, 0), (30, .aload_n 0, 0, 0), (31, .aload_n 0, 0, 0), (32, .getfield 28, 3, 7), (35, .iload 4, 0, 0), (37, .iaload, 0, 0), (38, .invokevirtual 124, 41, 2), (41, .istore 5, 0, 0), (43, .iload 5, 0, 0), (45, .ifCond .ne 22, 67, 0), (48, .aload_n 0, 0, 0), (49, .getfield 40, 3, 11), (52, .iload_n 2, 0, 0), (53, .aload_n 0, 0, 0), (54, .getfield 28, 3, 7), (57, .iload 4, 0, 0), (59, .iaload, 0, 0), (60, .iastore, 0, 0), (61, .iinc 2 1, 0, 0), (64, .goto 37, 101, 0), (67, .iload_n 3, 0, 0), (68, .iload 5, 0, 0), (70, .ishr, 0, 0), (71, .iconst 1, 0, 0), (72, .iand, 0, 0), (73, .ifCond .ne 28, 101, 0), (76, .iload_n 3, 0, 0), (77, .iconst 1, 0, 0), (78, .iload 5, 0, 0), (80, .ishl, 0, 0), (81, .ior, 0, 0), (82, .istore_n 3, 0, 0), (83, .aload_n 0, 0, 0), (84, .iload 5, 0, 0), (86, .iload 4, 0, 0), (88, .aload_n 0, 0, 0), (89, .getfield 25, 3, 6), (92, .iload_n 1, 0, 0), (93, .iconst 1, 0, 0), (94, .iadd, 0, 0), (95, .iaload, 0, 0), (96, .iload_n 2, 0, 0), (97, .invokevirtual 128, 52, 5), (100, .istore_n 2, 0, 0), (101, .iinc 4 1, 0, 0), (104, .goto (-87), 17, 0), (107, .aload_n 0, 0, 0), (108, .getfield 40, 3, 11), (111, .aload_n 0, 0, 0), (112, .getfield 25, 3, 6), (115, .iload_n 1, 0, 0), (116, .iaload, 0, 0), (117, .aload_n 0, 0, 0), (118, .getfield 28, 3, 7), (121, .aload_n 0, 0, 0), (122, .getfield 25, 3, 6), (125, .iload_n 1, 0, 0), (126, .iaload, 0, 0), (127, .aload_n 0, 0, 0), (128, .iload_n 1, 0, 0), (129, .invokevirtual 132, 43, 2), (132, .invokestatic 112, 1001, 5), (135, .aload_n 0, 0, 0), (136, .iload_n 1, 0, 0), (137, .invokevirtual 118, 48, 2), (140, .return_, 0, 0)]
/-- LayeredDrawing.Order.putGroup(IIII)I -/
def K_52 : List GE := [(0, .iload 4, 0, 0), (2, .istore 5, 0, 0), (4, .iload_n 2, 0, 0), (5, .istore 6, 0, 0), (7, .iload 6, 0, 0), (9, .iload_n 3, 0, 0), (10, .if_icmp .ge 41, 51, 0), (13, .aload_n 0, 0, 0), (14, .aload_n 0, 0, 0), (15, .getfield 28, 3, 7), (18, .iload 6, 0, 0), (20, .iaload, 0, 0), (21, .invokevirtual 124, 41, 2), (24, .iload_n 1, 0, 0), (25, .if_icmp .ne 20, 45, 0), (28, .aload_n 0, 0, 0), (29, .getfield 40, 3, 11), (32, .iload 5, 0, 0), (34, .aload_n 0, 0, 0), (35, .getfield 28, 3, 7), (38, .iload 6, 0, 0), (40, .iaload, 0, 0), (41, .iastore, 0, 0), (42, .iinc 5 1, 0, 0), (45, .iinc 6 1, 0, 0), (48, .goto (-41), 7, 0), (51, .iload 5, 0, 0), (53, .ireturn, 0, 0)]
/-- LayeredDrawing.Order.groupsTogether(I)Z -/
def K_53 : List GE := [(0, .iconst 0, 0, 0), (1, .istore_n 2, 0, 0), (2, .iconst 0, 0, 0), (3, .istore_n 3, 0, 0), (4, .aload_n 0, 0, 0), (5, .getfield 25, 3, 6), (8, .iload_n 1, 0, 0), (9, .iaload, 0, 0), (10, .istore 4, 0, 0), (12, .iload 4, 0, 0), (14, .aload_n 0, 0, 0), (15, .getfield 25, 3, 6), (18, .iload_n 1, 0, 0), (19, .iconst 1, 0, 0), (20, .iadd, 0, 0), (21, .iaload, 0, 0), (22, .if_icmp .ge 54, 76, 0), (25, .aload_n 0, 0, 0), (26, .aload_n 0, 0, 0), (27, .getfield 28, 3, 7), (30, .iload 4, 0, 0), (32, .iaload, 0, 0), (33, .invokevirtual 124, 41, 2), (36, .istore 5, 0, 0), (38, .iload 5, 0, 0), (40, .ifCond .eq 27, 67, 0), (43, .iload 5, 0, 0), (45, .iload_n 3, 0, 0), (46, .if_icmp .eq 21, 67, 0), (49, .iload_n 2, 0, 0), (50, .iload 5, 0, 0), (52, .ishr, 0, 0), (53, .iconst 1, 0, 0), (54, .iand, 0, 0), (55, .ifCond .eq 5, 60, 0), (58, .iconst 0, 0, 0), (59, .ireturn, 0, 0), (60, .iload_n 2, 0, 0), (61, .iconst 1, 0, 0), (62, .iload 5, 0, 0), (64, .ishl, 0, 0), (65, .ior, 0, 0), (66, .istore_n 2, 0, 0), (67, .iload 5, 0, 0), (69, .istore_n 3, 0, 0), (70, .iinc 4 1, 0, 0), (73, .goto (-61), 12, 0), (76, .iconst 1, 0, 0), (77, .ireturn, 0, 0)]
/-- LayeredDrawing.Order.spotOf(II)I -/
def K_54 : List GE := [(0, .iconst 0, 0, 0), (1, .istore_n 3, 0, 0), (2, .iload_n 2, 0, 0), (3, .aload_n 0, 0, 0), (4, .getfield 59, 3, 1), (7, .getfield 83, 2, 6), (10, .iload_n 1, 0, 0), (11, .iaload, 0, 0), (12, .if_icmp .ne 15, 27, 0), (15, .aload_n 0, 0, 0), (16, .getfield 59, 3, 1), (19, .iload_n 1, 0, 0), (20, .invokevirtual 135, 23, 2), (23, .istore_n 3, 0, 0), (24, .goto 25, 49, 0), (27, .iload_n 2, 0, 0), (28, .aload_n 0, 0, 0), (29, .getfield 59, 3, 1), (32, .getfield 80, 2, 7), (35, .iload_n 1, 0, 0), (36, .iaload, 0, 0), (37, .if_icmp .ne 12, 49, 0), (40, .aload_n 0, 0, 0), (41, .getfield 59, 3, 1), (44, .iload_n 1, 0, 0), (45, .invokevirtual 138, 24, 2), (48, .istore_n 3, 0, 0), (49, .bipush 8, 0, 0), (51, .aload_n 0, 0, 0), (52, .getfield 31, 3, 8), (55, .aload_n 0, 0, 0), (56, .iload_n 1, 0, 0), (57, .iload_n 2, 0, 0), (58, .invokevirtual 96, 39, 3), (61, .iaload, 0, 0), (62, .imul, 0, 0), (63, .iload_n 3, 0, 0), (64, .iadd, 0, 0), (65, .ireturn, 0, 0)]
/-- LayeredDrawing.Order.countBelow(I)I -/
def K_55 : List GE := [(0, .iconst 0, 0, 0), (1, .istore_n 2, 0, 0), (2, .iconst 0, 0, 0), (3, .istore_n 3, 0, 0), (4, .iload_n 3, 0, 0), (5, .aload_n 0, 0, 0), (6, .getfield 55, 3, 0), (9, .getfield 77, 1, 1), (12, .if_icmp .ge 47, 59, 0), (15, .aload_n 0, 0, 0), (16, .iload_n 3, 0, 0), (17, .iload_n 1, 0, 0), (18, .invokevirtual 141, 40, 3), (21, .ifCond .eq 32, 53, 0), (24, .aload_n 0, 0, 0), (25, .getfield 49, 3, 14), (28, .iload_n 2, 0, 0), (29, .aload_n 0, 0, 0), (30, .iload_n 3, 0, 0), (31, .iload_n 1, 0, 0), (32, .invokevirtual 145, 54, 3), (35, .iastore, 0, 0), (36, .aload_n 0, 0, 0), (37, .getfield 52, 3, 15), (40, .iload_n 2, 0, 0), (41, .aload_n 0, 0, 0), (42, .iload_n 3, 0, 0), (43, .iload_n 1, 0, 0), (44, .iconst 1, 0, 0), (45, .iadd, 0, 0), (46, .invokevirtual 145, 54, 3), (49, .iastore, 0, 0), (50, .iinc 2 1, 0, 0), (53, .iinc 3 1, 0, 0), (56, .goto (-52), 4, 0), (59, .iconst 0, 0, 0), (60, .istore_n 3, 0, 0), (61, .iconst 1, 0, 0), (62, .istore 4, 0, 0), (64, .iload 4, 0, 0), (66, .iload_n 2, 0, 0), (67, .if_icmp .ge 62, 129, 0), (70, .iconst 0, 0, 0), (71, .istore 5, 0, 0), (73, .iload 5, 0, 0), (75, .iload 4, 0, 0), (77, .if_icmp .ge 46, 123, 0), (80, .aload_n 0, 0, 0), (81, .getfield 49, 3, 14), (84, .iload 4, 0, 0), (86, .iaload, 0, 0), (87, .aload_n 0, 0, 0), (88, .getfield 49, 3, 14), (91, .iload 5, 0, 0), (93, .iaload, 0, 0), (94, .isub, 0, 0), (95, .aload_n 0, 0, 0), (96, .getfield 52, 3, 15), (99, .iload 4, 0, 0), (101, .iaload, 0, 0), (102, .aload_n 0, 0, 0), (103, .getfield 52, 3, 15), (106, .iload 5, 0, 0), (108, .iaload, 0, 0), (109, .isub, 0, 0), (110, .imul, 0, 0), (111, .ifCond .ge 6, 117, 0), (114, .iinc 3 1, 0, 0), (117, .iinc 5 1, 0, 0), (120, .goto (-47), 73, 0), (123, .iinc 4 1, 0, 0), (126, .goto (-62), 64, 0), (129, .iload_n 3, 0, 0), (130, .ireturn, 0, 0)]
/-- LayeredDrawing.Order.countAll()I -/
def K_56 : List GE := [(0, .iconst 0, 0, 0), (1, .istore_n 1, 0, 0), (2, .iconst 0, 0, 0), (3, .istore_n 2, 0, 0), (4, .iload_n 2, 0, 0), (5, .aload_n 0, 0, 0), (6, .getfield 59, 3, 1), (9, .getfield 89, 2, 1), (12, .iconst 1, 0, 0), (13, .isub, 0, 0), (14, .if_icmp .ge 17, 31, 0), (17, .iload_n 1, 0, 0), (18, .aload_n 0, 0, 0), (19, .iload_n 2, 0, 0), (20, .invokevirtual 148, 55, 2), (23, .iadd, 0, 0), (24, .istore_n 1, 0, 0), (25, .iinc 2 1, 0, 0), (28, .goto (-24), 4, 0), (31, .iload_n 1, 0, 0), (32, .ireturn, 0, 0)]
/-- LayeredDrawing.Order.countBetween(II)I -/
def K_57 : List GE := [(0, .iconst 0, 0, 0), (1, .istore_n 3, 0, 0), (2, .iconst 0, 0, 0), (3, .istore 4, 0, 0), (5, .iload 4, 0, 0), (7, .aload_n 0, 0, 0), (8, .getfield 59, 3, 1), (11, .getfield 89, 2, 1), (14, .iconst 1, 0, 0), (15, .isub, 0, 0), (16, .if_icmp .ge 78, 94, 0), (19, .aload_n 0, 0, 0), (20, .iload_n 1, 0, 0), (21, .iload 4, 0, 0), (23, .invokevirtual 141, 40, 3), (26, .ifCond .eq 62, 88, 0), (29, .aload_n 0, 0, 0), (30, .iload_n 2, 0, 0), (31, .iload 4, 0, 0), (33, .invokevirtual 141, 40, 3), (36, .ifCond .eq 52, 88, 0), (39, .aload_n 0, 0, 0), (40, .iload_n 1, 0, 0), (41, .iload 4, 0, 0), (43, .invokevirtual 145, 54, 3), (46, .aload_n 0, 0, 0), (47, .iload_n 2, 0, 0), (48, .iload 4, 0, 0), (50, .invokevirtual 145, 54, 3), (53, .isub, 0, 0), (54, .istore 5, 0, 0), (56, .aload_n 0, 0, 0), (57, .iload_n 1, 0, 0), (58, .iload 4, 0, 0), (60, .iconst 1, 0, 0), (61, .iadd, 0, 0), (62, .invokevirtual 145, 54, 3), (65, .aload_n 0, 0, 0), (66, .iload_n 2, 0, 0), (67, .iload 4, 0, 0), (69, .iconst 1, 0, 0), (70, .iadd, 0, 0), (71, .invokevirtual 145, 54, 3), (74, .isub, 0, 0), (75, .istore 6, 0, 0), (77, .iload 5, 0, 0), (79, .iload 6, 0, 0), (81, .imul, 0, 0), (82, .ifCond .ge 6, 88, 0), (85, .iinc 3 1, 0, 0), (88, .iinc 4 1, 0, 0), (91, .goto (-86), 5, 0), (94, .iload_n 3, 0, 0), (95, .ireturn, 0, 0)]
/-- LayeredDrawing.Order.sweepThrough(Z)V -/
def K_58 : List GE := [(0, .iload_n 1, 0, 0), (1, .ifCond .eq 33, 34, 0), (4, .iconst 1, 0, 0), (5, .istore_n 2, 0, 0), (6, .iload_n 2, 0, 0), (7, .aload_n 0, 0, 0), (8, .getfield 59, 3, 1), (11, .getfield 89, 2, 1), (14, .if_icmp .ge 17, 31, 0), (17, .aload_n 0, 0, 0), (18, .iload_n 2, 0, 0), (19, .iload_n 2, 0, 0), (20, .iconst 1, 0, 0), (21, .isub, 0, 0), (22, .invokevirtual 151, 59, 3), (25, .iinc 2 1, 0, 0), (28, .goto (-22), 6, 0), (31, .goto 31, 62, 0), (34, .aload_n 0, 0, 0), (35, .getfield 59, 3, 1), (38, .getfield 89, 2, 1), (41, .iconst 2, 0, 0), (42, .isub, 0, 0), (43, .istore_n 2, 0, 0), (44, .iload_n 2, 0, 0), (45, .ifCond .lt 17, 62, 0), (48, .aload_n 0, 0, 0), (49, .iload_n 2, 0, 0), (50, .iload_n 2, 0, 0), (51, .iconst 1, 0, 0), (52, .iadd, 0, 0), (53, .invokevirtual 151, 59, 3), (56, .iinc 2 (-1), 0, 0), (59, .goto (-15), 44, 0), (62, .return_, 0, 0)]
/-- LayeredDrawing.Order.orderByWeights(II)V -/
def K_59 : List GE := [(0, .aload_n 0, 0, 0), (1, .iload_n 1, 0, 0), (2, .iload_n 2, 0, 0), (3, .invokevirtual 154, 60, 3), (6, .aload_n 0, 0, 0), (7, .getfield 25, 3, 6), (10, .iload_n 1, 0, 0), (11, .iaload, 0, 0), (12, .iconst 1, 0, 0), (13, .iadd, 0, 0), (14, .istore_n 3, 0, 0), (15, .iload_n 3, 0, 0), (16, .aload_n 0, 0, 0), (17, .getfield 25, 3, 6), (20, .iload_n 1, 0, 0), (21, .iconst 1, 0, 0), (22, .iadd, 0, 0), (23, .iaload, 0, 0), (24, .if_icmp .ge 87, 111, 0), (27, .aload_n 0, 0, 0), (28, .getfield 28, 3, 7), (31, .iload_n 3, 0, 0), (32, .iaload, 0, 0), (33, .istore 4, 0, 0), (35, .iload_n 3, 0, 0), (36, .istore 5, 0, 0), (38, .iload_n 3, 0, 0), (39, .iconst 1, 0, 0), (40, .isub, 0, 0), (41, .istore 6, 0, 0), (43, .iload 6, 0, 0), (45, .aload_n 0, 0, 0), (46, .getfield 25, 3, 6), (49, .iload_n 1, 0, 0), (50, .iaload, 0, 0), (51, .if_icmp .lt 45, 96, 0), (54, .aload_n 0, 0, 0), (55, .iload 4, 0, 0), (57, .aload_n 0, 0, 0), (58, .getfield 28, 3, 7), (61, .iload 6, 0, 0), (63, .iaload, 0, 0), (64, .invokevirtual 157, 61, 3), (67, .ifCond .eq 29, 96, 0), (70, .aload_n 0, 0, 0), (71, .getfield 28, 3, 7), (74, .iload 6, 0, 0), (76, .iconst 1, 0, 0), (77, .iadd, 0, 0), (78, .aload_n 0, 0, 0), (79, .getfield 28, 3, 7), (82, .iload 6, 0, 0), (84, .iaload, 0, 0), (85, .iastore, 0, 0), (86, .iload 6, 0, 0), (88, .istore 5, 0, 0), (90, .iinc 6 (-1), 0, 0), (93, .goto (-50), 43, 0), (96, .aload_n 0, 0, 0), (97, .getfield 28, 3, 7), (100, .iload 5, 0, 0), (102, .iload 4, 0, 0), (104, .iastore, 0, 0), (105, .iinc 3 1, 0, 0), (108, .goto (-93), 15, 0), (111, .aload_n 0, 0, 0), (112, .iload_n 1, 0, 0), (113, .invokevirtual 92, 51, 2), (116, .return_, 0, 0)]
/-- LayeredDrawing.Order.weigh(II)V -/
def K_60 : List GE := [(0, .aload_n 0, 0, 0), (1, .getfield 25, 3, 6), (4, .iload_n 1, 0, 0), (5, .iaload, 0, 0), (6, .istore_n 3, 0, 0), (7, .iload_n 3, 0, 0), (8, .aload_n 0, 0, 0), (9, .getfield 25, 3, 6), (12, .iload_n 1, 0, 0), (13, .iconst 1, 0, 0), (14, .iadd, 0, 0), (15, .iaload, 0, 0), (16, .if_icmp .ge 33, 49, 0), (19, .aload_n 0, 0, 0), (20, .getfield 43, 3, 12), (23, .aload_n 0, 0, 0), (24, .getfield 28, 3, 7), (27, .iload_n 3, 0, 0), (28, .iaload, 0, 0), (29, .iconst 0, 0, 0), (30, .iastore, 0, 0), (31, .aload_n 0, 0, 0), (32, .getfield 46, 3, 13), (35, .aload_n 0, 0, 0), (36, .getfield 28, 3, 7), (39, .iload_n 3, 0, 0), (40, .iaload, 0, 0), (41, .iconst 0, 0, 0), (42, .iastore, 0, 0), (43, .iinc 3 1, 0, 0), (46, .goto (-39), 7, 0), (49, .iconst 0, 0, 0), (50, .istore_n 3, 0, 0), (51, .iload_n 3, 0, 0), (52, .aload_n 0, 0, 0), (53, .getfield 55, 3, 0), (56, .getfield 77, 1, 1), (59, .if_icmp .ge 57, 116, 0), (62, .aload_n 0, 0, 0), (63, .iload_n 3, 0, 0), (64, .iload_n 1, 0, 0), (65, .iload_n 2, 0, 0), (66, .invokestatic 160, 1004, 2), (69, .invokevirtual 141, 40, 3), (72, .ifCond .eq 38, 110, 0), (75, .aload_n 0, 0, 0), (76, .iload_n 3, 0, 0), (77, .iload_n 1, 0, 0), (78, .invokevirtual 96, 39, 3), (81, .istore 4, 0, 0), (83, .aload_n 0, 0, 0), (84, .getfield 43, 3, 12), (87, .iload 4, 0, 0), (89, .dup2, 0, 0), (90, .iaload, 0, 0), (91, .aload_n 0, 0, 0), (92, .iload_n 3, 0, 0), (93, .iload_n 2, 0, 0), (94, .invokevirtual 145, 54, 3), (97, .iadd, 0, 0), (98, .iastore, 0, 0), (99, .aload_n 0, 0, 0), (100, .getfield 46, 3, 13), (103, .iload 4, 0, 0), (105, .dup2, 0, 0), (106, .iaload, 0, 0), (107, .iconst 1, 0, 0), (108, .iadd, 0, 0), (109, .iastore, 0, 0), (110, .iinc 3 1, 0, 0), (113, .goto (-62), 51, 0), (116, .aload_n 0, 0, 0), (117, .getfield 25, 3, 6), (120, .iload_n 1, 0, 0), (121, .iaload, 0, 0), (122, .istore_n 3, 0, 0), (123, .iload_n 3, 0, 0), (124, .aload_n 0, 0, 0), (125, .getfield 25, 3, 6), (128, .iload_n 1, 0, 0), (129, .iconst 1, 0, 0), (130, .iadd, 0, 0), (131, .iaload, 0, 0), (132, .if_icmp .ge 52, 184, 0), (135, .aload_n 0, 0, 0), (136, .getfield 28, 3, 7), (139, .iload_n 3, 0, 0), (140, .iaload, 0, 0), (141, .istore 4, 0, 0), (143, .aload_n 0, 0, 0), (144, .getfield 46, 3, 13), (147, .iload 4, 0, 0), (149, .iaload, 0, 0), (150, .ifCond .ne 28, 178, 0), (153, .aload_n 0, 0, 0), (154, .getfield 43, 3, 12), (157, .iload 4, 0, 0), (159, .bipush 8, 0, 0), (161, .aload_n 0, 0, 0), (162, .getfield 31, 3, 8), (165, .iload 4, 0, 0), (167, .iaload, 0, 0), (168, .imul, 0, 0), (169, .iastore, 0, 0), (170, .aload_n 0, 0, 0), (171, .getfield 46, 3, 13), (174, .iload 4, 0, 0), (176, .iconst 1, 0, 0), (177, .iastore, 0, 0), (178, .iinc 3 1, 0, 0), (181, .goto (-58), 123, 0), (184, .return_, 0, 0)]
/-- LayeredDrawing.Order.isLighter(II)Z -/
def K_61 : List GE := [(0, .aload_n 0, 0, 0), (1, .getfield 43, 3, 12), (4, .iload_n 1, 0, 0), (5, .iaload, 0, 0), (6, .aload_n 0, 0, 0), (7, .getfield 46, 3, 13), (10, .iload_n 2, 0, 0), (11, .iaload, 0, 0), (12, .imul, 0, 0), (13, .aload_n 0, 0, 0), (14, .getfield 43, 3, 12), (17, .iload_n 2, 0, 0), (18, .iaload, 0, 0), (19, .aload_n 0, 0, 0), (20, .getfield 46, 3, 13), (23, .iload_n 1, 0, 0), (24, .iaload, 0, 0), (25, .imul, 0, 0), (26, .if_icmp .ge 7, 33, 0), (29, .iconst 1, 0, 0), (30, .goto 4, 34, 0), (33, .iconst 0, 0, 0), (34, .ireturn, 0, 0)]
/-- LayeredDrawing.Order.siftVertex(I)V -/
def K_62 : List GE := [(0, .aload_n 0, 0, 0), (1, .getfield 19, 3, 4), (4, .iload_n 1, 0, 0), (5, .iaload, 0, 0), (6, .istore_n 2, 0, 0), (7, .aload_n 0, 0, 0), (8, .getfield 31, 3, 8), (11, .iload_n 1, 0, 0), (12, .iaload, 0, 0), (13, .istore_n 3, 0, 0), (14, .ldc 165, 0, 1073741824), (16, .istore 4, 0, 0), (18, .aload_n 0, 0, 0), (19, .iload_n 2, 0, 0), (20, .invokevirtual 132, 43, 2), (23, .istore 5, 0, 0), (25, .iconst 0, 0, 0), (26, .istore 6, 0, 0), (28, .iload 6, 0, 0), (30, .iload 5, 0, 0), (32, .if_icmp .ge 53, 85, 0), (35, .aload_n 0, 0, 0), (36, .iload_n 1, 0, 0), (37, .iload 6, 0, 0), (39, .invokevirtual 166, 50, 3), (42, .aload_n 0, 0, 0), (43, .iload_n 2, 0, 0), (44, .invokevirtual 169, 53, 2), (47, .ifCond .eq 32, 79, 0), (50, .aload_n 0, 0, 0), (51, .iload_n 2, 0, 0), (52, .iconst 1, 0, 0), (53, .isub, 0, 0), (54, .invokevirtual 148, 55, 2), (57, .aload_n 0, 0, 0), (58, .iload_n 2, 0, 0), (59, .invokevirtual 148, 55, 2), (62, .iadd, 0, 0), (63, .istore 7, 0, 0), (65, .iload 7, 0, 0), (67, .iload 4, 0, 0), (69, .if_icmp .ge 10, 79, 0), (72, .iload 7, 0, 0), (74, .istore 4, 0, 0), (76, .iload 6, 0, 0), (78, .istore_n 3, 0, 0), (79, .iinc 6 1, 0, 0), (82, .goto (-54), 28, 0), (85, .aload_n 0, 0, 0), (86, .iload_n 1, 0, 0), (87, .iload_n 3, 0, 0), (88, .invokevirtual 166, 50, 3), (91, .return_, 0, 0)]
/-- LayeredDrawing.Order.siftEveryVertex()V -/
def K_63 : List GE := [(0, .iconst 0, 0, 0), (1, .istore_n 1, 0, 0), (2, .iload_n 1, 0, 0), (3, .aload_n 0, 0, 0), (4, .getfield 59, 3, 1), (7, .getfield 89, 2, 1), (10, .if_icmp .ge 40, 50, 0), (13, .iconst 0, 0, 0), (14, .istore_n 2, 0, 0), (15, .iload_n 2, 0, 0), (16, .aload_n 0, 0, 0), (17, .getfield 9, 3, 2), (20, .if_icmp .ge 24, 44, 0), (23, .aload_n 0, 0, 0), (24, .getfield 19, 3, 4), (27, .iload_n 2, 0, 0), (28, .iaload, 0, 0), (29, .iload_n 1, 0, 0), (30, .if_icmp .ne 8, 38, 0), (33, .aload_n 0, 0, 0), (34, .iload_n 2, 0, 0), (35, .invokevirtual 173, 62, 2), (38, .iinc 2 1, 0, 0), (41, .goto (-26), 15, 0), (44, .iinc 1 1, 0, 0), (47, .goto (-45), 2, 0), (50, .return_, 0, 0)]
/-- LayeredDrawing.Order.improve(I)I -/
def K_64 : List GE := [(0, .aload_n 0, 0, 0), (1, .getfield 28, 3, 7), (4, .iconst 0, 0, 0), (5, .aload_n 0, 0, 0), (6, .getfield 37, 3, 10), (9, .iconst 0, 0, 0), (10, .bipush 60, 0, 0), (12, .invokestatic 112, 1001, 5), (15, .aload_n 0, 0, 0), (16, .invokevirtual 176, 56, 1), (19, .istore_n 2, 0, 0), (20, .iconst 0, 0, 0), (21, .istore_n 3, 0, 0), (22, .iload_n 3, 0, 0), (23, .iload_n 1, 0, 0), (24, .if_icmp .ge 53, 77, 0), (27, .aload_n 0, 0, 0), (28, .iconst 1, 0, 0), (29, .invokevirtual 180, 58, 2), (32, .aload_n 0, 0, 0), (33, .iconst 0, 0, 0), (34, .invokevirtual 180, 58, 2), (37, .aload_n 0, 0, 0), (38, .invokevirtual 184, 63, 1), (41, .aload_n 0, 0, 0), (42, .invokevirtual 176, 56, 1), (45, .istore 4, 0, 0), (47, .iload 4, 0, 0), (49, .iload_n 2, 0, 0), (50, .if_icmp .ge 21, 71, 0), (53, .iload 4, 0, 0), (55, .istore_n 2, 0, 0), (56, .aload_n 0, 0, 0), (57, .getfield 28, 3, 7), (60, .iconst 0, 0, 0), (61, .aload_n 0, 0, 0), (62, .getfield 37, 3, 10), (65, .iconst 0, 0, 0), (66, .bipush 60, 0, 0), (68, .invokestatic 112, 1001, 5), (71, .iinc 3 1, 0, 0), (74, .goto (-52), 22, 0), (77, .aload_n 0, 0, 0), (78, .aload_n 0, 0, 0), (79, .getfield 37, 3, 10), (82, .invokevirtual 187, 47, 2), (85, .iload_n 2, 0, 0), (86, .ireturn, 0, 0)]
/-- LayeredDrawing.Slot.<init>()V -/
def K_65 : List GE := [(0, .aload_n 0, 0, 0), (1, .invokespecial 3, 1000, 1), (4, .aload_n 0, 0, 0), (5, .iconst 0, 0, 0), (6, .putfield 9, 4, 0), (9, .aload_n 0, 0, 0), (10, .iconst 0, 0, 0), (11, .putfield 15, 4, 1), (14, .aload_n 0, 0, 0), (15, .new 18, 1, 9), (18, .dup, 0, 0), (19, .invokespecial 20, 13, 1), (22, .putfield 21, 4, 2), (25, .aload_n 0, 0, 0), (26, .bipush 60, 0, 0), (28, .newarray .int, 0, 0), (30, .putfield 25, 4, 3), (33, .aload_n 0, 0, 0), (34, .bipush 60, 0, 0), (36, .newarray .int, 0, 0), (38, .putfield 29, 4, 4), (41, .return_, 0, 0)]
/-- LayeredDrawing.Text.<init>()V -/
def K_66 : List GE := [(0, .aload_n 0, 0, 0), (1, .invokespecial 3, 1000, 1), (4, .aload_n 0, 0, 0), (5, .bipush 100, 0, 0), (7, .newarray .char, 0, 0), (9, .putfield 9, 5, 0), (12, .aload_n 0, 0, 0), (13, .iconst 0, 0, 0), (14, .putfield 15, 5, 1), (17, .aload_n 0, 0, 0), (18, .iconst 0, 0, 0), (19, .putfield 19, 5, 2), (22, .aload_n 0, 0, 0), (23, .iconst 0, 0, 0), (24, .putfield 22, 5, 3), (27, .aload_n 0, 0, 0), (28, .iconst 0, 0, 0), (29, .putfield 25, 5, 4), (32, .aload_n 0, 0, 0), (33, .iconst 0, 0, 0), (34, .putfield 28, 5, 5), (37, .aload_n 0, 0, 0), (38, .iconst 0, 0, 0), (39, .putfield 31, 5, 6), (42, .aload_n 0, 0, 0), (43, .iconst 0, 0, 0), (44, .putfield 34, 5, 7), (47, .aload_n 0, 0, 0), (48, .iconst 0, 0, 0), (49, .putfield 37, 5, 8), (52, .return_, 0, 0)]
/-- LayeredDrawing.Text.put(C)V -/
def K_67 : List GE := [(0, .aload_n 0, 0, 0), (1, .getfield 15, 5, 1), (4, .bipush 100, 0, 0), (6, .if_icmp .ge 23, 29, 0), (9, .aload_n 0, 0, 0), (10, .getfield 9, 5, 0), (13, .aload_n 0, 0, 0), (14, .getfield 15, 5, 1), (17, .iload_n 1, 0, 0), (18, .castore, 0, 0), (19, .aload_n 0, 0, 0), (20, .dup, 0, 0), (21, .getfield 15, 5, 1), (24, .iconst 1, 0, 0), (25, .iadd, 0, 0), (26, .putfield 15, 5, 1), (29, .return_, 0, 0)]
/-- LayeredDrawing.Text.findFault(I)I -/
def K_68 : List GE := [(0, .aload_n 0, 0, 0), (1, .iconst 0, 0, 0), (2, .putfield 19, 5, 2), (5, .aload_n 0, 0, 0), (6, .iconst 0, 0, 0), (7, .putfield 22, 5, 3), (10, .iconst 0, 0, 0), (11, .istore_n 2, 0, 0), (12, .iload_n 2, 0, 0), (13, .bipush 100, 0, 0), (15, .if_icmp .ge 43, 58, 0), (18, .aload_n 0, 0, 0), (19, .getfield 19, 5, 2), (22, .aload_n 0, 0, 0), (23, .getfield 15, 5, 1), (26, .if_icmp .ge 32, 58, 0), (29, .aload_n 0, 0, 0), (30, .iload_n 1, 0, 0), (31, .invokevirtual 40, 69, 2), (34, .ifCond .ne 8, 42, 0), (37, .aload_n 0, 0, 0), (38, .getfield 19, 5, 2), (41, .ireturn, 0, 0), (42, .aload_n 0, 0, 0), (43, .dup, 0, 0), (44, .getfield 22, 5, 3), (47, .iconst 1, 0, 0), (48, .iadd, 0, 0), (49, .putfield 22, 5, 3), (52, .iinc 2 1, 0, 0), (55, .goto (-43), 12, 0), (58, .bipush (-4), 0, 0), (60, .ireturn, 0, 0)]
/-- LayeredDrawing.Text.readEdge(I)Z -/
def K_69 : List GE := [(0, .aload_n 0, 0, 0), (1, .aload_n 0, 0, 0), (2, .iload_n 1, 0, 0), (3, .bipush (-4), 0, 0), (5, .invokevirtual 44, 70, 3), (8, .putfield 25, 5, 4), (11, .aload_n 0, 0, 0), (12, .getfield 25, 5, 4), (15, .ifCond .ge 5, 20, 0), (18, .iconst 0, 0, 0), (19, .ireturn, 0, 0), (20, .aload_n 0, 0, 0), (21, .aload_n 0, 0, 0), (22, .bipush 46, 0, 0), (24, .bipush 48, 0, 0), (26, .bipush 55, 0, 0), (28, .iconst 0, 0, 0), (29, .invokevirtual 48, 71, 5), (32, .putfield 31, 5, 6), (35, .aload_n 0, 0, 0), (36, .getfield 31, 5, 6), (39, .ifCond .lt 12, 51, 0), (42, .aload_n 0, 0, 0), (43, .bipush 62, 0, 0), (45, .invokevirtual 52, 73, 2), (48, .ifCond .ne 5, 53, 0), (51, .iconst 0, 0, 0), (52, .ireturn, 0, 0), (53, .aload_n 0, 0, 0), (54, .aload_n 0, 0, 0), (55, .iload_n 1, 0, 0), (56, .aload_n 0, 0, 0), (57, .getfield 25, 5, 4), (60, .invokevirtual 44, 70, 3), (63, .putfield 28, 5, 5), (66, .aload_n 0, 0, 0), (67, .getfield 28, 5, 5), (70, .ifCond .ge 5, 75, 0), (73, .iconst 0, 0, 0), (74, .ireturn, 0, 0), (75, .aload_n 0, 0, 0), (76, .aload_n 0, 0, 0), (77, .bipush 46, 0, 0), (79, .bipush 48, 0, 0), (81, .bipush 55, 0, 0), (83, .iconst 0, 0, 0), (84, .invokevirtual 48, 71, 5), (87, .putfield 34, 5, 7), (90, .aload_n 0, 0, 0), (91, .getfield 34, 5, 7), (94, .ifCond .ge 5, 99, 0), (97, .iconst 0, 0, 0), (98, .ireturn, 0, 0), (99, .aload_n 0, 0, 0), (100, .aload_n 0, 0, 0), (101, .bipush 61, 0, 0), (103, .bipush 49, 0, 0), (105, .bipush 51, 0, 0), (107, .iconst 1, 0, 0), (108, .invokevirtual 48, 71, 5), (111, .putfield 37, 5, 8), (114, .aload_n 0, 0, 0), (115, .getfield 37, 5, 8), (118, .ifCond .lt 16, 134, 0), (121, .aload_n 0, 0, 0), (122, .bipush 59, 0, 0), (124, .invokevirtual 52, 73, 2), (127, .ifCond .eq 7, 134, 0), (130, .iconst 1, 0, 0), (131, .goto 4, 135, 0), (134, .iconst 0, 0, 0), (135, .ireturn, 0, 0)]
/-- LayeredDrawing.Text.readNumber(II)I -/
def K_70 : List GE := [(0, .aload_n 0, 0, 0), (1, .getfield 19, 5, 2), (4, .istore_n 3, 0, 0), (5, .aload_n 0, 0, 0), (6, .bipush 48, 0, 0), (8, .bipush 57, 0, 0), (10, .invokevirtual 56, 72, 3), (13, .istore 4, 0, 0), (15, .iload 4, 0, 0), (17, .ifCond .le 33, 50, 0), (20, .aload_n 0, 0, 0), (21, .bipush 48, 0, 0), (23, .bipush 57, 0, 0), (25, .invokevirtual 56, 72, 3), (28, .istore 5, 0, 0), (30, .iload 5, 0, 0), (32, .ifCond .ge 8, 40, 0), (35, .iload 4, 0, 0), (37, .goto 11, 48, 0), (40, .bipush 10, 0, 0), (42, .iload 4, 0, 0), (44, .imul, 0, 0), (45, .iload 5, 0, 0), (47, .iadd, 0, 0), (48, .istore 4, 0, 0), (50, .iload 4, 0, 0), (52, .iload_n 1, 0, 0), (53, .if_icmp .ge 9, 62, 0), (56, .iload 4, 0, 0), (58, .iload_n 2, 0, 0), (59, .if_icmp .ne 10, 69, 0), (62, .aload_n 0, 0, 0), (63, .iload_n 3, 0, 0), (64, .putfield 19, 5, 2), (67, .iconst (-1), 0, 0), (68, .ireturn, 0, 0), (69, .iload 4, 0, 0), (71, .ireturn, 0, 0)]
/-- LayeredDrawing.Text.readOption(CCCI)I -/
def K_71 : List GE := [(0, .aload_n 0, 0, 0), (1, .iload_n 1, 0, 0), (2, .invokevirtual 52, 73, 2), (5, .ifCond .eq 12, 17, 0), (8, .aload_n 0, 0, 0), (9, .iload_n 2, 0, 0), (10, .iload_n 3, 0, 0), (11, .invokevirtual 56, 72, 3), (14, .goto 5, 19, 0), (17, .iload 4, 0, 0), (19, .ireturn, 0, 0)]
/-- LayeredDrawing.Text.readDigit(CC)I -/
def K_72 : List GE := [(0, .aload_n 0, 0, 0), (1, .getfield 19, 5, 2), (4, .aload_n 0, 0, 0), (5, .getfield 15, 5, 1), (8, .if_icmp .ge 29, 37, 0), (11, .aload_n 0, 0, 0), (12, .getfield 9, 5, 0), (15, .aload_n 0, 0, 0), (16, .getfield 19, 5, 2), (19, .caload, 0, 0), (20, .iload_n 1, 0, 0), (21, .if_icmp .lt 16, 37, 0), (24, .aload_n 0, 0, 0), (25, .getfield 9, 5, 0), (28, .aload_n 0, 0, 0), (29, .getfield 19, 5, 2), (32, .caload, 0, 0), (33, .iload_n 2, 0, 0), (34, .if_icmp .le 5, 39, 0), (37, .iconst (-1), 0, 0), (38, .ireturn, 0, 0), (39, .aload_n 0, 0, 0), (40, .dup, 0, 0), (41, .getfield 19, 5, 2), (44, .iconst 1, 0, 0), (45, .iadd, 0, 0), (46, .putfield 19, 5, 2), (49, .aload_n 0, 0, 0), (50, .getfield 9, 5, 0), (53, .aload_n 0, 0, 0), (54, .getfield 19, 5, 2), (57, .iconst 1, 0, 0), (58, .isub, 0, 0), (59, .caload, 0, 0), (60, .bipush 48, 0, 0), (62, .isub, 0, 0), (63, .ireturn, 0, 0)]
/-- LayeredDrawing.Text.take(C)Z -/
def K_73 : List GE := [(0, .aload_n 0, 0, 0), (1, .getfield 19, 5, 2), (4, .aload_n 0, 0, 0), (5, .getfield 15, 5, 1), (8, .if_icmp .ge 16, 24, 0), (11, .aload_n 0, 0, 0), (12, .getfield 9, 5, 0), (15, .aload_n 0, 0, 0), (16, .getfield 19, 5, 2), (19, .caload, 0, 0), (20, .iload_n 1, 0, 0), (21, .if_icmp .eq 5, 26, 0), (24, .iconst 0, 0, 0), (25, .ireturn, 0, 0), (26, .aload_n 0, 0, 0), (27, .dup, 0, 0), (28, .getfield 19, 5, 2), (31, .iconst 1, 0, 0), (32, .iadd, 0, 0), (33, .putfield 19, 5, 2), (36, .iconst 1, 0, 0), (37, .ireturn, 0, 0)]
/-- LayeredDrawing.<init>()V -/
def K_74 : List GE := [(0, .aload_n 0, 0, 0), (1, .invokespecial 1, 1000, 1), (4, .aload_n 0, 0, 0), (5, .new 7, 1, 9), (8, .dup, 0, 0), (9, .invokespecial 9, 13, 1), (12, .putfield 10, 6, 0), (15, .aload_n 0, 0, 0), (16, .new 16, 2, 11), (19, .dup, 0, 0), (20, .aload_n 0, 0, 0), (21, .getfield 10, 6, 0), (24, .invokespecial 18, 19, 2), (27, .putfield 21, 6, 1), (30, .aload_n 0, 0, 0), (31, .new 25, 3, 16), (34, .dup, 0, 0), (35, .aload_n 0, 0, 0), (36, .getfield 10, 6, 0), (39, .aload_n 0, 0, 0), (40, .getfield 21, 6, 1), (43, .invokespecial 27, 34, 3), (46, .putfield 30, 6, 2), (49, .aload_n 0, 0, 0), (50, .new 34, 0, 5), (53, .dup, 0, 0), (54, .aload_n 0, 0, 0), (55, .getfield 10, 6, 0), (58, .aload_n 0, 0, 0), (59, .getfield 21, 6, 1), (62, .aload_n 0, 0, 0), (63, .getfield 30, 6, 2), (66, .invokespecial 36, 0, 4), (69, .putfield 39, 6, 3), (72, .aload_n 0, 0, 0), (73, .new 43, 5, 9), (76, .dup, 0, 0), (77, .invokespecial 45, 66, 1), (80, .putfield 46, 6, 4), (83, .aload_n 0, 0, 0), (84, .iconst 2, 0, 0), (85, .anewarray 50, 0, 0), (88, .putfield 52, 6, 5), (91, .iconst 0, 0, 0), (92, .istore_n 1, 0, 0), (93, .iload_n 1, 0, 0), (94, .iconst 2, 0, 0), (95, .if_icmp .ge 22, 117, 0), (98, .aload_n 0, 0, 0), (99, .getfield 52, 6, 5), (102, .iload_n 1, 0, 0), (103, .new 50, 4, 5), (106, .dup, 0, 0), (107, .invokespecial 56, 65, 1), (110, .aastore, 4, 0), (111, .iinc 1 1, 0, 0), (114, .goto (-21), 93, 0), (117, .aload_n 0, 0, 0), (118, .iconst 0, 0, 0), (119, .putfield 57, 6, 6), (122, .return_, 0, 0)]
/-- LayeredDrawing.addNode(II)I -/
def K_76 : List GE := [(0, .iload_n 1, 0, 0), (1, .iconst 1, 0, 0), (2, .if_icmp .lt 18, 20, 0), (5, .iload_n 1, 0, 0), (6, .bipush 9, 0, 0), (8, .if_icmp .gt 12, 20, 0), (11, .iload_n 2, 0, 0), (12, .ifCond .lt 8, 20, 0), (15, .iload_n 2, 0, 0), (16, .iconst 3, 0, 0), (17, .if_icmp .le 5, 22, 0), (20, .iconst (-1), 0, 0), (21, .ireturn, 0, 0), (22, .aload_n 0, 0, 0), (23, .getfield 10, 6, 0), (26, .getfield 61, 1, 0), (29, .bipush 12, 0, 0), (31, .if_icmp .lt 6, 37, 0), (34, .bipush (-2), 0, 0), (36, .ireturn, 0, 0), (37, .aload_n 0, 0, 0), (38, .getfield 10, 6, 0), (41, .iload_n 1, 0, 0), (42, .iload_n 2, 0, 0), (43, .invokevirtual 71, 15, 3), (46, .istore_n 3, 0, 0), (47, .aload_n 0, 0, 0), (48, .invokevirtual 68, 116, 1), (51, .iload_n 3, 0, 0), (52, .ireturn, 0, 0)]
/-- LayeredDrawing.addEdge(IIIII)I -/
def K_77 : List GE := [(0, .aload_n 0, 0, 0), (1, .iload_n 1, 0, 0), (2, .invokevirtual 75, 118, 2), (5, .ifCond .eq 16, 21, 0), (8, .aload_n 0, 0, 0), (9, .iload_n 2, 0, 0), (10, .invokevirtual 75, 118, 2), (13, .ifCond .eq 8, 21, 0), (16, .iload_n 1, 0, 0), (17, .iload_n 2, 0, 0), (18, .if_icmp .ne 5, 23, 0), (21, .iconst (-1), 0, 0), (22, .ireturn, 0, 0), (23, .iload_n 3, 0, 0), (24, .invokestatic 79, 121, 1), (27, .ifCond .eq 23, 50, 0), (30, .iload 4, 0, 0), (32, .invokestatic 79, 121, 1), (35, .ifCond .eq 15, 50, 0), (38, .iload 5, 0, 0), (40, .iconst 1, 0, 0), (41, .if_icmp .lt 9, 50, 0), (44, .iload 5, 0, 0), (46, .iconst 3, 0, 0), (47, .if_icmp .le 5, 52, 0), (50, .iconst (-1), 0, 0), (51, .ireturn, 0, 0), (52, .aload_n 0, 0, 0), (53, .getfield 10, 6, 0), (56, .getfield 82, 1, 1), (59, .bipush 20, 0, 0), (61, .if_icmp .lt 6, 67, 0), (64, .bipush (-2), 0, 0), (66, .ireturn, 0, 0), (67, .aload_n 0, 0, 0), (68, .getfield 10, 6, 0), (71, .iload_n 1, 0, 0), (72, .iload_n 2, 0, 0), (73, .iload_n 3, 0, 0), (74, .iload 4, 0, 0), (76, .iload 5, 0, 0), (78, .invokevirtual 85, 16, 6), (81, .istore 6, 0, 0), (83, .aload_n 0, 0, 0), (84, .invokevirtual 68, 116, 1), (87, .iload 6, 0, 0), (89, .ireturn, 0, 0)]
/-- LayeredDrawing.removeEdge()I -/
def K_78 : List GE := [(0, .aload_n 0, 0, 0), (1, .getfield 10, 6, 0), (4, .getfield 82, 1, 1), (7, .iconst 1, 0, 0), (8, .if_icmp .ge 6, 14, 0), (11, .bipush (-3), 0, 0), (13, .ireturn, 0, 0), (14, .aload_n 0, 0, 0), (15, .getfield 10, 6, 0), (18, .dup, 0, 0), (19, .getfield 82, 1, 1), (22, .iconst 1, 0, 0), (23, .isub, 0, 0), (24, .putfield 82, 1, 1), (27, .aload_n 0, 0, 0), (28, .invokevirtual 68, 116, 1), (31, .aload_n 0, 0, 0), (32, .getfield 10, 6, 0), (35, .getfield 82, 1, 1), (38, .ireturn, 0, 0)]
/-- LayeredDrawing.setGroup(II)I -/
def K_79 : List GE := [(0, .aload_n 0, 0, 0), (1, .iload_n 1, 0, 0), (2, .invokevirtual 75, 118, 2), (5, .ifCond .eq 12, 17, 0), (8, .iload_n 2, 0, 0), (9, .ifCond .lt 8, 17, 0), (12, .iload_n 2, 0, 0), (13, .iconst 3, 0, 0), (14, .if_icmp .le 5, 19, 0), (17, .iconst (-1), 0, 0), (18, .ireturn, 0, 0), (19, .aload_n 0, 0, 0), (20, .getfield 10, 6, 0), (23, .getfield 89, 1, 3), (26, .iload_n 1, 0, 0), (27, .iaload, 0, 0), (28, .istore_n 3, 0, 0), (29, .aload_n 0, 0, 0), (30, .getfield 10, 6, 0), (33, .getfield 89, 1, 3), (36, .iload_n 1, 0, 0), (37, .iload_n 2, 0, 0), (38, .iastore, 0, 0), (39, .aload_n 0, 0, 0), (40, .invokevirtual 68, 116, 1), (43, .iload_n 3, 0, 0), (44, .ireturn, 0, 0)]
/-- LayeredDrawing.edges()I -/
def K_81 : List GE := [(0, .aload_n 0, 0, 0), (1, .getfield 10, 6, 0), (4, .getfield 82, 1, 1), (7, .ireturn, 0, 0)]
/-- LayeredDrawing.edge(II)I -/
def K_82 : List GE := [(0, .aload_n 0, 0, 0), (1, .iload_n 1, 0, 0), (2, .invokevirtual 93, 119, 2), (5, .ifCond .ne 5, 10, 0), (8, .iconst (-1), 0, 0), (9, .ireturn, 0, 0), (10, .iload_n 2, 0, 0), (11, .tableswitch 83 0 4 #[33, 43, 53, 63, 73], 33, 0), (44, .aload_n 0, 0, 0), (45, .getfield 10, 6, 0), (48, .getfield 96, 1, 4), (51, .iload_n 1, 0, 0), (52, .iaload, 0, 0), (53, .ireturn, 0, 0), (54, .aload_n 0, 0, 0), (55, .getfield 10, 6, 0), (58, .getfield 99, 1, 5), (61, .iload_n 1, 0, 0), (62, .iaload, 0, 0), (63, .ireturn, 0, 0), (64, .aload_n 0, 0, 0), (65, .getfield 10, 6, 0), (68, .getfield 102, 1, 6), (71, .iload_n 1, 0, 0), (72, .iaload, 0, 0), (73, .ireturn, 0, 0), (74, .aload_n 0, 0, 0), (75, .getfield 10, 6, 0), (78, .getfield 105, 1, 7), (81, .iload_n 1, 0, 0), (82, .iaload, 0, 0), (83, .ireturn, 0, 0), (84, .aload_n 0, 0, 0), (85, .getfield 10, 6, 0), (88, .getfield 108, 1, 8), (91, .iload_n 1, 0, 0), (92, .iaload, 0, 0), (93, .ireturn, 0, 0), (94, .iconst (-1), 0, 0), (95, .ireturn, 0, 0)]
/-- LayeredDrawing.reversed(I)I -/
def K_83 : List GE := [(0, .aload_n 0, 0, 0), (1, .iload_n 1, 0, 0), (2, .invokevirtual 93, 119, 2), (5, .ifCond .ne 5, 10, 0), (8, .iconst (-1), 0, 0), (9, .ireturn, 0, 0), (10, .aload_n 0, 0, 0), (11, .getfield 21, 6, 1), (14, .getfield 111, 2, 2), (17, .iload_n 1, 0, 0), (18, .baload, 0, 0), (19, .ifCond .eq 7, 26, 0), (22, .iconst 1, 0, 0), (23, .goto 4, 27, 0), (26, .iconst 0, 0, 0), (27, .ireturn, 0, 0)]
/-- LayeredDrawing.layerOf(I)I -/
def K_85 : List GE := [(0, .aload_n 0, 0, 0), (1, .iload_n 1, 0, 0), (2, .invokevirtual 75, 118, 2), (5, .ifCond .ne 5, 10, 0), (8, .iconst (-1), 0, 0), (9, .ireturn, 0, 0), (10, .aload_n 0, 0, 0), (11, .getfield 21, 6, 1), (14, .getfield 115, 2, 5), (17, .iload_n 1, 0, 0), (18, .iaload, 0, 0), (19, .ireturn, 0, 0)]
/-- LayeredDrawing.lengthOf(I)I -/
def K_86 : List GE := [(0, .aload_n 0, 0, 0), (1, .iload_n 1, 0, 0), (2, .invokevirtual 93, 119, 2), (5, .ifCond .ne 5, 10, 0), (8, .iconst (-1), 0, 0), (9, .ireturn, 0, 0), (10, .aload_n 0, 0, 0), (11, .getfield 21, 6, 1), (14, .iload_n 1, 0, 0), (15, .invokevirtual 118, 21, 2), (18, .ireturn, 0, 0)]
/-- LayeredDrawing.totalLength()I -/
def K_87 : List GE := [(0, .aload_n 0, 0, 0), (1, .getfield 21, 6, 1), (4, .invokevirtual 122, 22, 1), (7, .ireturn, 0, 0)]
/-- LayeredDrawing.layers()I -/
def K_88 : List GE := [(0, .aload_n 0, 0, 0), (1, .getfield 21, 6, 1), (4, .getfield 126, 2, 1), (7, .ireturn, 0, 0)]
/-- LayeredDrawing.layOut()I -/
def K_89 : List GE := [(0, .aload_n 0, 0, 0), (1, .getfield 10, 6, 0), (4, .getfield 61, 1, 0), (7, .aload_n 0, 0, 0), (8, .getfield 21, 6, 1), (11, .invokevirtual 122, 22, 1), (14, .iadd, 0, 0), (15, .aload_n 0, 0, 0), (16, .getfield 10, 6, 0), (19, .getfield 82, 1, 1), (22, .isub, 0, 0), (23, .istore_n 1, 0, 0), (24, .iload_n 1, 0, 0), (25, .bipush 60, 0, 0), (27, .if_icmp .le 6, 33, 0), (30, .bipush (-2), 0, 0), (32, .ireturn, 0, 0), (33, .aload_n 0, 0, 0), (34, .getfield 30, 6, 2), (37, .invokevirtual 129, 35, 1), (40, .aload_n 0, 0, 0), (41, .getfield 39, 6, 3), (44, .invokevirtual 132, 1, 1), (47, .aload_n 0, 0, 0), (48, .iconst 1, 0, 0), (49, .putfield 57, 6, 6), (52, .aload_n 0, 0, 0), (53, .getfield 30, 6, 2), (56, .getfield 135, 3, 2), (59, .ireturn, 0, 0)]
/-- LayeredDrawing.vertices(I)I -/
def K_90 : List GE := [(0, .aload_n 0, 0, 0), (1, .getfield 57, 6, 6), (4, .ifCond .ne 6, 10, 0), (7, .bipush (-3), 0, 0), (9, .ireturn, 0, 0), (10, .aload_n 0, 0, 0), (11, .iload_n 1, 0, 0), (12, .invokevirtual 138, 120, 2), (15, .ifCond .ne 5, 20, 0), (18, .iconst (-1), 0, 0), (19, .ireturn, 0, 0), (20, .aload_n 0, 0, 0), (21, .getfield 30, 6, 2), (24, .iload_n 1, 0, 0), (25, .invokevirtual 141, 43, 2), (28, .ireturn, 0, 0)]
/-- LayeredDrawing.vertex(II)I -/
def K_91 : List GE := [(0, .aload_n 0, 0, 0), (1, .getfield 57, 6, 6), (4, .ifCond .ne 6, 10, 0), (7, .bipush (-3), 0, 0), (9, .ireturn, 0, 0), (10, .aload_n 0, 0, 0), (11, .iload_n 1, 0, 0), (12, .invokevirtual 138, 120, 2), (15, .ifCond .eq 19, 34, 0), (18, .iload_n 2, 0, 0), (19, .ifCond .lt 15, 34, 0), (22, .iload_n 2, 0, 0), (23, .aload_n 0, 0, 0), (24, .getfield 30, 6, 2), (27, .iload_n 1, 0, 0), (28, .invokevirtual 141, 43, 2), (31, .if_icmp .lt 5, 36, 0), (34, .iconst (-1), 0, 0), (35, .ireturn, 0, 0), (36, .aload_n 0, 0, 0), (37, .getfield 30, 6, 2), (40, .getfield 144, 3, 3), (43, .aload_n 0, 0, 0), (44, .getfield 30, 6, 2), (47, .iload_n 1, 0, 0), (48, .iload_n 2, 0, 0), (49, .invokevirtual 147, 44, 3), (52, .iaload, 0, 0), (53, .ireturn, 0, 0)]
/-- LayeredDrawing.placeOf(I)I -/
def K_92 : List GE := [(0, .aload_n 0, 0, 0), (1, .getfield 57, 6, 6), (4, .ifCond .ne 6, 10, 0), (7, .bipush (-3), 0, 0), (9, .ireturn, 0, 0), (10, .aload_n 0, 0, 0), (11, .getfield 30, 6, 2), (14, .iload_n 1, 0, 0), (15, .invokevirtual 150, 38, 2), (18, .istore_n 2, 0, 0), (19, .iload_n 2, 0, 0), (20, .ifCond .ge 5, 25, 0), (23, .iconst (-1), 0, 0), (24, .ireturn, 0, 0), (25, .aload_n 0, 0, 0), (26, .getfield 30, 6, 2), (29, .getfield 153, 3, 8), (32, .iload_n 2, 0, 0), (33, .iaload, 0, 0), (34, .ireturn, 0, 0)]
/-- LayeredDrawing.crossingsBelow(I)I -/
def K_93 : List GE := [(0, .aload_n 0, 0, 0), (1, .getfield 57, 6, 6), (4, .ifCond .ne 6, 10, 0), (7, .bipush (-3), 0, 0), (9, .ireturn, 0, 0), (10, .aload_n 0, 0, 0), (11, .iload_n 1, 0, 0), (12, .invokevirtual 138, 120, 2), (15, .ifCond .eq 16, 31, 0), (18, .iload_n 1, 0, 0), (19, .aload_n 0, 0, 0), (20, .getfield 21, 6, 1), (23, .getfield 126, 2, 1), (26, .iconst 1, 0, 0), (27, .isub, 0, 0), (28, .if_icmp .ne 5, 33, 0), (31, .iconst (-1), 0, 0), (32, .ireturn, 0, 0), (33, .aload_n 0, 0, 0), (34, .getfield 30, 6, 2), (37, .iload_n 1, 0, 0), (38, .invokevirtual 156, 55, 2), (41, .ireturn, 0, 0)]
/-- LayeredDrawing.crossings()I -/
def K_94 : List GE := [(0, .aload_n 0, 0, 0), (1, .getfield 57, 6, 6), (4, .ifCond .ne 6, 10, 0), (7, .bipush (-3), 0, 0), (9, .ireturn, 0, 0), (10, .aload_n 0, 0, 0), (11, .getfield 30, 6, 2), (14, .invokevirtual 159, 56, 1), (17, .ireturn, 0, 0)]
/-- LayeredDrawing.crossingsOf(II)I -/
def K_95 : List GE := [(0, .aload_n 0, 0, 0), (1, .getfield 57, 6, 6), (4, .ifCond .ne 6, 10, 0), (7, .bipush (-3), 0, 0), (9, .ireturn, 0, 0), (10, .aload_n 0, 0, 0), (11, .iload_n 1, 0, 0), (12, .invokevirtual 93, 119, 2), (15, .ifCond .eq 16, 31, 0), (18, .aload_n 0, 0, 0), (19, .iload_n 2, 0, 0), (20, .invokevirtual 93, 119, 2), (23, .ifCond .eq 8, 31, 0), (26, .iload_n 1, 0, 0), (27, .iload_n 2, 0, 0), (28, .if_icmp .ne 5, 33, 0), (31, .iconst (-1), 0, 0), (32, .ireturn, 0, 0), (33, .aload_n 0, 0, 0), (34, .getfield 30, 6, 2), (37, .iload_n 1, 0, 0), (38, .iload_n 2, 0, 0), (39, .invokevirtual 162, 57, 3), (42, .ireturn, 0, 0)]
/-- LayeredDrawing.sweep(Z)I -/
def K_96 : List GE := [(0, .aload_n 0, 0, 0), (1, .getfield 57, 6, 6), (4, .ifCond .ne 6, 10, 0), (7, .bipush (-3), 0, 0), (9, .ireturn, 0, 0), (10, .aload_n 0, 0, 0), (11, .getfield 30, 6, 2), (14, .invokevirtual 165, 45, 1), (17, .aload_n 0, 0, 0), (18, .getfield 30, 6, 2), (21, .iload_n 1, 0, 0), (22, .invokevirtual 168, 58, 2), (25, .aload_n 0, 0, 0), (26, .invokevirtual 172, 117, 1), (29, .aload_n 0, 0, 0), (30, .getfield 30, 6, 2), (33, .invokevirtual 159, 56, 1), (36, .ireturn, 0, 0)]
/-- LayeredDrawing.sift(I)I -/
def K_97 : List GE := [(0, .aload_n 0, 0, 0), (1, .getfield 57, 6, 6), (4, .ifCond .ne 6, 10, 0), (7, .bipush (-3), 0, 0), (9, .ireturn, 0, 0), (10, .aload_n 0, 0, 0), (11, .getfield 30, 6, 2), (14, .iload_n 1, 0, 0), (15, .invokevirtual 150, 38, 2), (18, .istore_n 2, 0, 0), (19, .iload_n 2, 0, 0), (20, .ifCond .ge 5, 25, 0), (23, .iconst (-1), 0, 0), (24, .ireturn, 0, 0), (25, .aload_n 0, 0, 0), (26, .getfield 30, 6, 2), (29, .invokevirtual 165, 45, 1), (32, .aload_n 0, 0, 0), (33, .getfield 30, 6, 2), (36, .iload_n 2, 0, 0), (37, .invokevirtual 175, 62, 2), (40, .aload_n 0, 0, 0), (41, .invokevirtual 172, 117, 1), (44, .aload_n 0, 0, 0), (45, .getfield 30, 6, 2), (48, .getfield 153, 3, 8), (51, .iload_n 2, 0, 0), (52, .iaload, 0, 0), (53, .ireturn, 0, 0)]
/-- LayeredDrawing.siftAll()I -/
def K_98 : List GE := [(0, .aload_n 0, 0, 0), (1, .getfield 57, 6, 6), (4, .ifCond .ne 6, 10, 0), (7, .bipush (-3), 0, 0), (9, .ireturn, 0, 0), (10, .aload_n 0, 0, 0), (11, .getfield 30, 6, 2), (14, .invokevirtual 165, 45, 1), (17, .aload_n 0, 0, 0), (18, .getfield 30, 6, 2), (21, .invokevirtual 179, 63, 1), (24, .aload_n 0, 0, 0), (25, .invokevirtual 172, 117, 1), (28, .aload_n 0, 0, 0), (29, .getfield 30, 6, 2), (32, .invokevirtual 159, 56, 1), (35, .ireturn, 0, 0)]
/-- LayeredDrawing.reduce(I)I -/
def K_99 : List GE := [(0, .aload_n 0, 0, 0), (1, .getfield 57, 6, 6), (4, .ifCond .ne 6, 10, 0), (7, .bipush (-3), 0, 0), (9, .ireturn, 0, 0), (10, .iload_n 1, 0, 0), (11, .iconst 1, 0, 0), (12, .if_icmp .lt 9, 21, 0), (15, .iload_n 1, 0, 0), (16, .bipush 6, 0, 0), (18, .if_icmp .le 5, 23, 0), (21, .iconst (-1), 0, 0), (22, .ireturn, 0, 0), (23, .aload_n 0, 0, 0), (24, .getfield 30, 6, 2), (27, .invokevirtual 165, 45, 1), (30, .aload_n 0, 0, 0), (31, .getfield 30, 6, 2), (34, .iload_n 1, 0, 0), (35, .invokevirtual 182, 64, 2), (38, .istore_n 2, 0, 0), (39, .aload_n 0, 0, 0), (40, .invokevirtual 172, 117, 1), (43, .iload_n 2, 0, 0), (44, .ireturn, 0, 0)]
/-- LayeredDrawing.exchange(II)I -/
def K_100 : List GE := [(0, .aload_n 0, 0, 0), (1, .getfield 57, 6, 6), (4, .ifCond .ne 6, 10, 0), (7, .bipush (-3), 0, 0), (9, .ireturn, 0, 0), (10, .aload_n 0, 0, 0), (11, .iload_n 1, 0, 0), (12, .invokevirtual 138, 120, 2), (15, .ifCond .eq 21, 36, 0), (18, .iload_n 2, 0, 0), (19, .ifCond .lt 17, 36, 0), (22, .iload_n 2, 0, 0), (23, .aload_n 0, 0, 0), (24, .getfield 30, 6, 2), (27, .iload_n 1, 0, 0), (28, .invokevirtual 141, 43, 2), (31, .iconst 1, 0, 0), (32, .isub, 0, 0), (33, .if_icmp .lt 5, 38, 0), (36, .iconst (-1), 0, 0), (37, .ireturn, 0, 0), (38, .aload_n 0, 0, 0), (39, .getfield 30, 6, 2), (42, .iload_n 1, 0, 0), (43, .iload_n 2, 0, 0), (44, .invokevirtual 185, 49, 3), (47, .aload_n 0, 0, 0), (48, .getfield 30, 6, 2), (51, .iload_n 1, 0, 0), (52, .invokevirtual 189, 53, 2), (55, .ifCond .ne 14, 69, 0), (58, .aload_n 0, 0, 0), (59, .getfield 30, 6, 2), (62, .iload_n 1, 0, 0), (63, .iload_n 2, 0, 0), (64, .invokevirtual 185, 49, 3), (67, .iconst (-1), 0, 0), (68, .ireturn, 0, 0), (69, .aload_n 0, 0, 0), (70, .getfield 39, 6, 3), (73, .invokevirtual 132, 1, 1), (76, .aload_n 0, 0, 0), (77, .getfield 30, 6, 2), (80, .invokevirtual 159, 56, 1), (83, .ireturn, 0, 0)]
/-- LayeredDrawing.align()I -/
def K_101 : List GE := [(0, .aload_n 0, 0, 0), (1, .getfield 57, 6, 6), (4, .ifCond .ne 6, 10, 0), (7, .bipush (-3), 0, 0), (9, .ireturn, 0, 0), (10, .aload_n 0, 0, 0), (11, .getfield 39, 6, 3), (14, .invokevirtual 192, 2, 1), (17, .aload_n 0, 0, 0), (18, .getfield 39, 6, 3), (21, .invokevirtual 195, 6, 1), (24, .ireturn, 0, 0)]
/-- LayeredDrawing.left(I)I -/
def K_102 : List GE := [(0, .aload_n 0, 0, 0), (1, .getfield 57, 6, 6), (4, .ifCond .ne 6, 10, 0), (7, .bipush (-3), 0, 0), (9, .ireturn, 0, 0), (10, .aload_n 0, 0, 0), (11, .getfield 30, 6, 2), (14, .iload_n 1, 0, 0), (15, .invokevirtual 150, 38, 2), (18, .istore_n 2, 0, 0), (19, .iload_n 2, 0, 0), (20, .ifCond .ge 5, 25, 0), (23, .iconst (-1), 0, 0), (24, .ireturn, 0, 0), (25, .aload_n 0, 0, 0), (26, .getfield 39, 6, 3), (29, .getfield 198, 0, 3), (32, .iload_n 2, 0, 0), (33, .iaload, 0, 0), (34, .ireturn, 0, 0)]
/-- LayeredDrawing.width()I -/
def K_103 : List GE := [(0, .aload_n 0, 0, 0), (1, .getfield 57, 6, 6), (4, .ifCond .ne 6, 10, 0), (7, .bipush (-3), 0, 0), (9, .ireturn, 0, 0), (10, .aload_n 0, 0, 0), (11, .getfield 39, 6, 3), (14, .invokevirtual 195, 6, 1), (17, .ireturn, 0, 0)]
/-- LayeredDrawing.spread()I -/
def K_104 : List GE := [(0, .aload_n 0, 0, 0), (1, .getfield 57, 6, 6), (4, .ifCond .ne 6, 10, 0), (7, .bipush (-3), 0, 0), (9, .ireturn, 0, 0), (10, .aload_n 0, 0, 0), (11, .getfield 39, 6, 3), (14, .invokevirtual 201, 8, 1), (17, .ireturn, 0, 0)]
/-- LayeredDrawing.straight(I)I -/
def K_105 : List GE := [(0, .aload_n 0, 0, 0), (1, .getfield 57, 6, 6), (4, .ifCond .ne 6, 10, 0), (7, .bipush (-3), 0, 0), (9, .ireturn, 0, 0), (10, .aload_n 0, 0, 0), (11, .iload_n 1, 0, 0), (12, .invokevirtual 93, 119, 2), (15, .ifCond .ne 5, 20, 0), (18, .iconst (-1), 0, 0), (19, .ireturn, 0, 0), (20, .aload_n 0, 0, 0), (21, .getfield 39, 6, 3), (24, .iload_n 1, 0, 0), (25, .invokevirtual 204, 9, 2), (28, .ireturn, 0, 0)]
/-- LayeredDrawing.border(II)I -/
def K_106 : List GE := [(0, .aload_n 0, 0, 0), (1, .getfield 57, 6, 6), (4, .ifCond .ne 6, 10, 0), (7, .bipush (-3), 0, 0), (9, .ireturn, 0, 0), (10, .iload_n 1, 0, 0), (11, .invokestatic 207, 122, 1), (14, .ifCond .eq 12, 26, 0), (17, .iload_n 2, 0, 0), (18, .ifCond .lt 8, 26, 0), (21, .iload_n 2, 0, 0), (22, .iconst 3, 0, 0), (23, .if_icmp .le 5, 28, 0), (26, .iconst (-1), 0, 0), (27, .ireturn, 0, 0), (28, .aload_n 0, 0, 0), (29, .getfield 10, 6, 0), (32, .iload_n 1, 0, 0), (33, .invokevirtual 210, 17, 2), (36, .ifCond .ne 6, 42, 0), (39, .bipush (-4), 0, 0), (41, .ireturn, 0, 0), (42, .aload_n 0, 0, 0), (43, .getfield 39, 6, 3), (46, .iload_n 1, 0, 0), (47, .iload_n 2, 0, 0), (48, .invokevirtual 213, 10, 3), (51, .ireturn, 0, 0)]
/-- LayeredDrawing.intruders(I)I -/
def K_107 : List GE := [(0, .aload_n 0, 0, 0), (1, .getfield 57, 6, 6), (4, .ifCond .ne 6, 10, 0), (7, .bipush (-3), 0, 0), (9, .ireturn, 0, 0), (10, .iload_n 1, 0, 0), (11, .invokestatic 207, 122, 1), (14, .ifCond .ne 5, 19, 0), (17, .iconst (-1), 0, 0), (18, .ireturn, 0, 0), (19, .aload_n 0, 0, 0), (20, .getfield 10, 6, 0), (23, .iload_n 1, 0, 0), (24, .invokevirtual 210, 17, 2), (27, .ifCond .ne 6, 33, 0), (30, .bipush (-4), 0, 0), (32, .ireturn, 0, 0), (33, .aload_n 0, 0, 0), (34, .getfield 39, 6, 3), (37, .iload_n 1, 0, 0), (38, .invokevirtual 216, 12, 2), (41, .ireturn, 0, 0)]
/-- LayeredDrawing.append(I)I -/
def K_108 : List GE := [(0, .iload_n 1, 0, 0), (1, .bipush 32, 0, 0), (3, .if_icmp .lt 9, 12, 0), (6, .iload_n 1, 0, 0), (7, .bipush 126, 0, 0), (9, .if_icmp .le 5, 14, 0), (12, .iconst (-1), 0, 0), (13, .ireturn, 0, 0), (14, .aload_n 0, 0, 0), (15, .getfield 46, 6, 4), (18, .getfield 219, 5, 1), (21, .bipush 100, 0, 0), (23, .if_icmp .lt 6, 29, 0), (26, .bipush (-2), 0, 0), (28, .ireturn, 0, 0), (29, .aload_n 0, 0, 0), (30, .getfield 46, 6, 4), (33, .iload_n 1, 0, 0), (34, .i2c, 0, 0), (35, .invokevirtual 222, 67, 2), (38, .aload_n 0, 0, 0), (39, .getfield 46, 6, 4), (42, .getfield 219, 5, 1), (45, .ireturn, 0, 0)]
/-- LayeredDrawing.clearText()I -/
def K_109 : List GE := [(0, .aload_n 0, 0, 0), (1, .getfield 46, 6, 4), (4, .getfield 219, 5, 1), (7, .istore_n 1, 0, 0), (8, .aload_n 0, 0, 0), (9, .getfield 46, 6, 4), (12, .iconst 0, 0, 0), (13, .putfield 219, 5, 1), (16, .iload_n 1, 0, 0), (17, .ireturn, 0, 0)]
/-- LayeredDrawing.faultPosition()I -/
def K_110 : List GE := [(0, .aload_n 0, 0, 0), (1, .getfield 46, 6, 4), (4, .aload_n 0, 0, 0), (5, .getfield 10, 6, 0), (8, .getfield 61, 1, 0), (11, .invokevirtual 226, 68, 2), (14, .ireturn, 0, 0)]
/-- LayeredDrawing.read()I -/
def K_111 : List GE := [(0, .aload_n 0, 0, 0), (1, .getfield 46, 6, 4), (4, .aload_n 0, 0, 0), (5, .getfield 10, 6, 0), (8, .getfield 61, 1, 0), (11, .invokevirtual 226, 68, 2), (14, .bipush (-4), 0, 0), (16, .if_icmp .eq 6, 22, 0), (19, .bipush (-3), 0, 0), (21, .ireturn, 0, 0), (22, .aload_n 0, 0, 0), (23, .getfield 46, 6, 4), (26, .getfield 229, 5, 3), (29, .istore_n 1, 0, 0), (30, .aload_n 0, 0, 0), (31, .getfield 10, 6, 0), (34, .getfield 82, 1, 1), (37, .iload_n 1, 0, 0), (38, .iadd, 0, 0), (39, .bipush 20, 0, 0), (41, .if_icmp .le 6, 47, 0), (44, .bipush (-2), 0, 0), (46, .ireturn, 0, 0), (47, .aload_n 0, 0, 0), (48, .getfield 46, 6, 4), (51, .iconst 0, 0, 0), (52, .putfield 232, 5, 2), (55, .iconst 0, 0, 0), (56, .istore_n 2, 0, 0), (57, .iload_n 2, 0, 0), (58, .iload_n 1, 0, 0), (59, .if_icmp .ge 69, 128, 0), (62, .aload_n 0, 0, 0), (63, .getfield 46, 6, 4), (66, .aload_n 0, 0, 0), (67, .getfield 10, 6, 0), (70, .getfield 61, 1, 0), (73, .invokevirtual 235, 69, 2), (76, .ifCond .eq 46, 122, 0), (79, .aload_n 0, 0, 0), (80, .getfield 10, 6, 0), (83, .aload_n 0, 0, 0), (84, .getfield 46, 6, 4), (87, .getfield 238, 5, 4), (90, .aload_n 0, 0, 0), (91, .getfield 46, 6, 4), (94, .getfield 240, 5, 5), (97, .aload_n 0, 0, 0), (98, .getfield 46, 6, 4), (101, .getfield 242, 5, 6), (104, .aload_n 0, 0, 0), (105, .getfield 46, 6, 4), (108, .getfield 244, 5, 7), (111, .aload_n 0, 0, 0), (112, .getfield 46, 6, 4), (115, .getfield 246, 5, 8), (118, .invokevirtual 85, 16, 6), (121, .pop, 0, 0), (122, .iinc 2 1, 0, 0), (125, .goto (-68), 57, 0), (128, .aload_n 0, 0, 0), (129, .invokevirtual 68, 116, 1), (132, .iload_n 1, 0, 0), (133, .ireturn, 0, 0)]
/-- LayeredDrawing.keep(I)I -/
def K_112 : List GE := [(0, .aload_n 0, 0, 0), (1, .iload_n 1, 0, 0), (2, .invokevirtual 248, 123, 2), (5, .astore_n 2, 0, 0), (6, .aload_n 2, 0, 0), (7, .ifnonnull 5, 12, 0), (10, .iconst (-1), 0, 0), (11, .ireturn, 0, 0), (12, .aload_n 2, 0, 0), (13, .getfield 252, 4, 2), (16, .aload_n 0, 0, 0), (17, .getfield 10, 6, 0), (20, .invokevirtual 253, 18, 2), (23, .aload_n 2, 0, 0), (24, .aload_n 0, 0, 0), (25, .getfield 57, 6, 6), (28, .putfield 256, 4, 1), (31, .aload_n 0, 0, 0), (32, .getfield 30, 6, 2), (35, .getfield 257, 3, 7), (38, .iconst 0, 0, 0), (39, .aload_n 2, 0, 0), (40, .getfield 260, 4, 3), (43, .iconst 0, 0, 0), (44, .bipush 60, 0, 0), (46, .invokestatic 262, 1001, 5), (49, .aload_n 0, 0, 0), (50, .getfield 39, 6, 3), (53, .getfield 198, 0, 3), (56, .iconst 0, 0, 0), (57, .aload_n 2, 0, 0), (58, .getfield 268, 4, 4), (61, .iconst 0, 0, 0), (62, .bipush 60, 0, 0), (64, .invokestatic 262, 1001, 5), (67, .aload_n 2, 0, 0), (68, .iconst 1, 0, 0), (69, .putfield 269, 4, 0), (72, .aload_n 0, 0, 0), (73, .getfield 10, 6, 0), (76, .getfield 61, 1, 0), (79, .ireturn, 0, 0)]
/-- LayeredDrawing.restore(I)I -/
def K_113 : List GE := [(0, .aload_n 0, 0, 0), (1, .iload_n 1, 0, 0), (2, .invokevirtual 248, 123, 2), (5, .astore_n 2, 0, 0), (6, .aload_n 2, 0, 0), (7, .ifnonnull 5, 12, 0), (10, .iconst (-1), 0, 0), (11, .ireturn, 0, 0), (12, .aload_n 2, 0, 0), (13, .getfield 269, 4, 0), (16, .ifCond .ne 6, 22, 0), (19, .bipush (-3), 0, 0), (21, .ireturn, 0, 0), (22, .aload_n 0, 0, 0), (23, .getfield 10, 6, 0), (26, .aload_n 2, 0, 0), (27, .getfield 252, 4, 2), (30, .invokevirtual 253, 18, 2), (33, .aload_n 0, 0, 0), (34, .invokevirtual 68, 116, 1), (37, .aload_n 2, 0, 0), (38, .getfield 256, 4, 1), (41, .ifCond .eq 44, 85, 0), (44, .aload_n 0, 0, 0), (45, .getfield 30, 6, 2), (48, .invokevirtual 129, 35, 1), (51, .aload_n 0, 0, 0), (52, .getfield 30, 6, 2), (55, .aload_n 2, 0, 0), (56, .getfield 260, 4, 3), (59, .invokevirtual 272, 47, 2), (62, .aload_n 2, 0, 0), (63, .getfield 268, 4, 4), (66, .iconst 0, 0, 0), (67, .aload_n 0, 0, 0), (68, .getfield 39, 6, 3), (71, .getfield 198, 0, 3), (74, .iconst 0, 0, 0), (75, .bipush 60, 0, 0), (77, .invokestatic 262, 1001, 5), (80, .aload_n 0, 0, 0), (81, .iconst 1, 0, 0), (82, .putfield 57, 6, 6), (85, .aload_n 0, 0, 0), (86, .getfield 10, 6, 0), (89, .getfield 61, 1, 0), (92, .ireturn, 0, 0)]
/-- LayeredDrawing.checksum()J -/
def K_114 : List GE := [(0, .ldc2_w 276, 0, 53), (3, .lstore_n 1, 0, 0), (4, .ldc2_w 278, 0, 31), (7, .lload_n 1, 0, 0), (8, .lmul, 0, 0), (9, .aload_n 0, 0, 0), (10, .getfield 10, 6, 0), (13, .getfield 61, 1, 0), (16, .i2l, 0, 0), (17, .ladd, 0, 0), (18, .lstore_n 1, 0, 0), (19, .ldc2_w 278, 0, 31), (22, .lload_n 1, 0, 0), (23, .lmul, 0, 0), (24, .aload_n 0, 0, 0), (25, .getfield 10, 6, 0), (28, .getfield 82, 1, 1), (31, .i2l, 0, 0), (32, .ladd, 0, 0), (33, .lstore_n 1, 0, 0), (34, .iconst 0, 0, 0), (35, .istore_n 3, 0, 0), (36, .iload_n 3, 0, 0), (37, .aload_n 0, 0, 0), (38, .getfield 10, 6, 0), (41, .getfield 82, 1, 1), (44, .if_icmp .ge 50, 94, 0), (47, .ldc2_w 278, 0, 31), (50, .lload_n 1, 0, 0), (51, .lmul, 0, 0), (52, .aload_n 0, 0, 0), (53, .getfield 21, 6, 1), (56, .getfield 111, 2, 2), (59, .iload_n 3, 0, 0), (60, .baload, 0, 0), (61, .ifCond .eq 7, 68, 0), (64, .iconst 1, 0, 0), (65, .goto 4, 69, 0), (68, .iconst 0, 0, 0), (69, .i2l, 0, 0), (70, .ladd, 0, 0), (71, .lstore_n 1, 0, 0), (72, .ldc2_w 278, 0, 31), (75, .lload_n 1, 0, 0), (76, .lmul, 0, 0), (77, .aload_n 0, 0, 0), (78, .getfield 21, 6, 1), (81, .iload_n 3, 0, 0), (82, .invokevirtual 118, 21, 2), (85, .i2l, 0, 0), (86, .ladd, 0, 0), (87, .lstore_n 1, 0, 0), (88, .iinc 3 1, 0, 0), (91, .goto (-55), 36, 0), (94, .iconst 0, 0, 0), (95, .istore_n 3, 0, 0), (96, .iload_n 3, 0, 0), (97, .aload_n 0, 0, 0), (98, .getfield 10, 6, 0), (101, .getfield 61, 1, 0), (104, .if_icmp .ge 26, 130, 0), (107, .ldc2_w 278, 0, 31), (110, .lload_n 1, 0, 0), (111, .lmul, 0, 0), (112, .aload_n 0, 0, 0), (113, .getfield 21, 6, 1), (116, .getfield 115, 2, 5), (119, .iload_n 3, 0, 0), (120, .iaload, 0, 0), (121, .i2l, 0, 0), (122, .ladd, 0, 0), (123, .lstore_n 1, 0, 0), (124, .iinc 3 1, 0, 0), (127, .goto (-31), 96, 0), (130, .ldc2_w 278, 0, 31), (133, .lload_n 1, 0, 0), (134, .lmul, 0, 0), (135, .aload_n 0, 0, 0), (136, .getfield 21, 6, 1), (139, .getfield 126, 2, 1), (142, .i2l, 0, 0), (143, .ladd, 0, 0), (144, .lstore_n 1, 0, 0), (145, .ldc2_w 278, 0, 31), (148, .lload_n 1, 0, 0), (149, .lmul, 0, 0), (150, .aload_n 0, 0, 0), (151, .getfield 21, 6, 1), (154, .invokevirtual 122, 22, 1), (157, .i2l, 0, 0), (158, .ladd, 0, 0), (159, .lstore_n 1, 0, 0), (160, .aload_n 0, 0, 0), (161, .getfield 57, 6, 6), (164, .ifCond .eq 11, 175, 0), (167, .aload_n 0, 0, 0), (168, .lload_n 1, 0, 0), (169, .invokevirtual 280, 115, 2), (172, .goto 4, 176, 0), (175, .lload_n 1, 0, 0), (176, .lreturn, 0, 0)]
/-- LayeredDrawing.withDrawing(J)J -/
def K_115 : List GE := [(0, .lload_n 1, 0, 0), (1, .lstore_n 3, 0, 0), (2, .ldc2_w 278, 0, 31), (5, .lload_n 3, 0, 0), (6, .lmul, 0, 0), (7, .aload_n 0, 0, 0), (8, .getfield 30, 6, 2), (11, .invokevirtual 159, 56, 1), (14, .i2l, 0, 0), (15, .ladd, 0, 0), (16, .lstore_n 3, 0, 0), (17, .ldc2_w 278, 0, 31), (20, .lload_n 3, 0, 0), (21, .lmul, 0, 0), (22, .aload_n 0, 0, 0), (23, .getfield 39, 6, 3), (26, .invokevirtual 195, 6, 1), (29, .i2l, 0, 0), (30, .ladd, 0, 0), (31, .lstore_n 3, 0, 0), (32, .ldc2_w 278, 0, 31), (35, .lload_n 3, 0, 0), (36, .lmul, 0, 0), (37, .aload_n 0, 0, 0), (38, .getfield 39, 6, 3), (41, .invokevirtual 201, 8, 1), (44, .i2l, 0, 0), (45, .ladd, 0, 0), (46, .lstore_n 3, 0, 0), (47, .iconst 0, 0, 0), (48, .istore 5, 0, 0), (50, .iload 5, 0, 0), (52, .aload_n 0, 0, 0), (53, .getfield 30, 6, 2), (56, .getfield 135, 3, 2), (59, .if_icmp .ge 57, 116, 0), (62, .aload_n 0, 0, 0), (63, .getfield 30, 6, 2), (66, .getfield 257, 3, 7), (69, .iload 5, 0, 0), (71, .iaload, 0, 0), (72, .istore 6, 0, 0), (74, .ldc2_w 278, 0, 31), (77, .lload_n 3, 0, 0), (78, .lmul, 0, 0), (79, .aload_n 0, 0, 0), (80, .getfield 30, 6, 2), (83, .getfield 144, 3, 3), (86, .iload 6, 0, 0), (88, .iaload, 0, 0), (89, .i2l, 0, 0), (90, .ladd, 0, 0), (91, .lstore_n 3, 0, 0), (92, .ldc2_w 278, 0, 31), (95, .lload_n 3, 0, 0), (96, .lmul, 0, 0), (97, .aload_n 0, 0, 0), (98, .getfield 39, 6, 3), (101, .getfield 198, 0, 3), (104, .iload 6, 0, 0), (106, .iaload, 0, 0), (107, .i2l, 0, 0), (108, .ladd, 0, 0), (109, .lstore_n 3, 0, 0), (110, .iinc 5 1, 0, 0), (113, .goto (-63), 50, 0), (116, .lload_n 3, 0, 0), (117, .lreturn, 0, 0)]
/-- LayeredDrawing.graphChanged()V -/
def K_116 : List GE := [(0, .aload_n 0, 0, 0), (1, .iconst 0, 0, 0), (2, .putfield 57, 6, 6), (5, .aload_n 0, 0, 0), (6, .getfield 21, 6, 1), (9, .invokevirtual 284, 20, 1), (12, .return_, 0, 0)]
/-- LayeredDrawing.packIfReordered()V -/
def K_117 : List GE := [(0, .aload_n 0, 0, 0), (1, .getfield 30, 6, 2), (4, .invokevirtual 287, 46, 1), (7, .ifCond .eq 10, 17, 0), (10, .aload_n 0, 0, 0), (11, .getfield 39, 6, 3), (14, .invokevirtual 132, 1, 1), (17, .return_, 0, 0)]
/-- LayeredDrawing.isNode(I)Z -/
def K_118 : List GE := [(0, .iload_n 1, 0, 0), (1, .ifCond .lt 18, 19, 0), (4, .iload_n 1, 0, 0), (5, .aload_n 0, 0, 0), (6, .getfield 10, 6, 0), (9, .getfield 61, 1, 0), (12, .if_icmp .ge 7, 19, 0), (15, .iconst 1, 0, 0), (16, .goto 4, 20, 0), (19, .iconst 0, 0, 0), (20, .ireturn, 0, 0)]
/-- LayeredDrawing.isEdge(I)Z -/
def K_119 : List GE := [(0, .iload_n 1, 0, 0), (1, .ifCond .lt 18, 19, 0), (4, .iload_n 1, 0, 0), (5, .aload_n 0, 0, 0), (6, .getfield 10, 6, 0), (9, .getfield 82, 1, 1), (12, .if_icmp .ge 7, 19, 0), (15, .iconst 1, 0, 0), (16, .goto 4, 20, 0), (19, .iconst 0, 0, 0), (20, .ireturn, 0, 0)]
/-- LayeredDrawing.isLayer(I)Z -/
def K_120 : List GE := [(0, .iload_n 1, 0, 0), (1, .ifCond .lt 18, 19, 0), (4, .iload_n 1, 0, 0), (5, .aload_n 0, 0, 0), (6, .getfield 21, 6, 1), (9, .getfield 126, 2, 1), (12, .if_icmp .ge 7, 19, 0), (15, .iconst 1, 0, 0), (16, .goto 4, 20, 0), (19, .iconst 0, 0, 0), (20, .ireturn, 0, 0)]
/-- LayeredDrawing.isPort(I)Z -/
def K_121 : List GE := [(0, .iload_n 0, 0, 0), (1, .ifCond .lt 13, 14, 0), (4, .iload_n 0, 0, 0), (5, .bipush 8, 0, 0), (7, .if_icmp .ge 7, 14, 0), (10, .iconst 1, 0, 0), (11, .goto 4, 15, 0), (14, .iconst 0, 0, 0), (15, .ireturn, 0, 0)]
/-- LayeredDrawing.isGroup(I)Z -/
def K_122 : List GE := [(0, .iload_n 0, 0, 0), (1, .iconst 1, 0, 0), (2, .if_icmp .lt 12, 14, 0), (5, .iload_n 0, 0, 0), (6, .iconst 3, 0, 0), (7, .if_icmp .gt 7, 14, 0), (10, .iconst 1, 0, 0), (11, .goto 4, 15, 0), (14, .iconst 0, 0, 0), (15, .ireturn, 0, 0)]
/-- LayeredDrawing.slotNumbered(I)LLayeredDrawing$Slot; -/
def K_123 : List GE := [(0, .iload_n 1, 0, 0), (1, .ifCond .lt 17, 18, 0), (4, .iload_n 1, 0, 0), (5, .iconst 2, 0, 0), (6, .if_icmp .ge 12, 18, 0), (9, .aload_n 0, 0, 0), (10, .getfield 52, 6, 5), (13, .iload_n 1, 0, 0), (14, .aaload, 0, 0), (15, .goto 4, 19, 0), (18, .aconst_null, 0, 0), (19, .areturn, 0, 0)]
/-- LayeredDrawingLaw.cell([II)I -/
def K_124 : List GE := [(0, .iload_n 1, 0, 0), (1, .aload_n 0, 0, 0), (2, .arraylength, 0, 0), (3, .if_icmp .ge 9, 12, 0), (6, .aload_n 0, 0, 0), (7, .iload_n 1, 0, 0), (8, .iaload, 0, 0), (9, .goto 11, 20, 0), (12, .ldc 7, 0, 15485869), (14, .iload_n 1, 0, 0), (15, .imul, 0, 0), (16, .sipush 149, 0, 0), (19, .iadd, 0, 0), (20, .ldc 8, 0, 2147483647), (22, .iand, 0, 0), (23, .ireturn, 0, 0)]
/-- LayeredDrawingLaw.graph(LLayeredDrawing;[IIIII)I -/
def K_125 : List GE := [(0, .iconst 0, 0, 0), (1, .istore 6, 0, 0), (3, .iload 6, 0, 0), (5, .iload_n 3, 0, 0), (6, .if_icmp .ge 39, 45, 0), (9, .aload_n 1, 0, 0), (10, .iload_n 2, 0, 0), (11, .iload 6, 0, 0), (13, .iadd, 0, 0), (14, .invokestatic 9, 124, 2), (17, .istore 7, 0, 0), (19, .aload_n 0, 0, 0), (20, .iconst 1, 0, 0), (21, .iload 7, 0, 0), (23, .iconst 5, 0, 0), (24, .irem, 0, 0), (25, .iadd, 0, 0), (26, .iload 7, 0, 0), (28, .iconst 4, 0, 0), (29, .ishr, 0, 0), (30, .iload 5, 0, 0), (32, .iconst 1, 0, 0), (33, .iadd, 0, 0), (34, .irem, 0, 0), (35, .invokevirtual 15, 76, 3), (38, .pop, 0, 0), (39, .iinc 6 1, 0, 0), (42, .goto (-39), 3, 0), (45, .iconst 0, 0, 0), (46, .istore 6, 0, 0), (48, .iconst 0, 0, 0), (49, .istore 7, 0, 0), (51, .iload 7, 0, 0), (53, .iload 4, 0, 0), (55, .if_icmp .ge 88, 143, 0), (58, .aload_n 1, 0, 0), (59, .iload_n 2, 0, 0), (60, .iload_n 3, 0, 0), (61, .iadd, 0, 0), (62, .iload 7, 0, 0), (64, .iadd, 0, 0), (65, .invokestatic 9, 124, 2), (68, .istore 8, 0, 0), (70, .iload 8, 0, 0), (72, .iload_n 3, 0, 0), (73, .irem, 0, 0), (74, .istore 9, 0, 0), (76, .iload 8, 0, 0), (78, .iconst 4, 0, 0), (79, .ishr, 0, 0), (80, .iload_n 3, 0, 0), (81, .irem, 0, 0), (82, .istore 10, 0, 0), (84, .iload 9, 0, 0), (86, .iload 10, 0, 0), (88, .if_icmp .eq 49, 137, 0), (91, .aload_n 0, 0, 0), (92, .iload 9, 0, 0), (94, .iload 10, 0, 0), (96, .iload 8, 0, 0), (98, .bipush 8, 0, 0), (100, .ishr, 0, 0), (101, .iconst 4, 0, 0), (102, .irem, 0, 0), (103, .iload 8, 0, 0), (105, .bipush 10, 0, 0), (107, .ishr, 0, 0), (108, .iconst 4, 0, 0), (109, .irem, 0, 0), (110, .iconst 1, 0, 0), (111, .iload 8, 0, 0), (113, .bipush 12, 0, 0), (115, .ishr, 0, 0), (116, .iload 4, 0, 0), (118, .bipush 6, 0, 0), (120, .if_icmp .le 7, 127, 0), (123, .iconst 2, 0, 0), (124, .goto 4, 128, 0), (127, .iconst 3, 0, 0), (128, .irem, 0, 0), (129, .iadd, 0, 0), (130, .invokevirtual 21, 77, 6), (133, .iconst 1, 0, 0), (134, .iadd, 0, 0), (135, .istore 6, 0, 0), (137, .iinc 7 1, 0, 0), (140, .goto (-89), 51, 0), (143, .iload 6, 0, 0), (145, .ireturn, 0, 0)]
/-- LayeredDrawingLaw.size(I)I -/
def K_126 : List GE := [(0, .iload_n 0, 0, 0), (1, .ifCond .ge 8, 9, 0), (4, .iload_n 0, 0, 0), (5, .ineg, 0, 0), (6, .goto 4, 10, 0), (9, .iload_n 0, 0, 0), (10, .ireturn, 0, 0)]
/-- LayeredDrawingLaw.end(LLayeredDrawing;III)I -/
def K_127 : List GE := [(0, .aload_n 0, 0, 0), (1, .iload_n 1, 0, 0), (2, .invokevirtual 25, 83, 2), (5, .istore 4, 0, 0), (7, .aload_n 0, 0, 0), (8, .iload_n 1, 0, 0), (9, .iload 4, 0, 0), (11, .invokevirtual 29, 82, 3), (14, .istore 5, 0, 0), (16, .aload_n 0, 0, 0), (17, .iload_n 1, 0, 0), (18, .iconst 1, 0, 0), (19, .iload 4, 0, 0), (21, .isub, 0, 0), (22, .invokevirtual 29, 82, 3), (25, .istore 6, 0, 0), (27, .iload_n 3, 0, 0), (28, .ifCond .ne 30, 58, 0), (31, .iload_n 2, 0, 0), (32, .aload_n 0, 0, 0), (33, .iload 5, 0, 0), (35, .invokevirtual 32, 85, 2), (38, .if_icmp .ne 8, 46, 0), (41, .iload 5, 0, 0), (43, .goto 43, 86, 0), (46, .bipush 100, 0, 0), (48, .bipush 40, 0, 0), (50, .iload_n 1, 0, 0), (51, .imul, 0, 0), (52, .iadd, 0, 0), (53, .iload_n 2, 0, 0), (54, .iadd, 0, 0), (55, .goto 31, 86, 0), (58, .iload_n 2, 0, 0), (59, .iconst 1, 0, 0), (60, .iadd, 0, 0), (61, .aload_n 0, 0, 0), (62, .iload 6, 0, 0), (64, .invokevirtual 32, 85, 2), (67, .if_icmp .ne 8, 75, 0), (70, .iload 6, 0, 0), (72, .goto 14, 86, 0), (75, .bipush 100, 0, 0), (77, .bipush 40, 0, 0), (79, .iload_n 1, 0, 0), (80, .imul, 0, 0), (81, .iadd, 0, 0), (82, .iload_n 2, 0, 0), (83, .iadd, 0, 0), (84, .iconst 1, 0, 0), (85, .iadd, 0, 0), (86, .ireturn, 0, 0)]
/-- LayeredDrawingLaw.sound(LLayeredDrawing;[I[I)Z -/
def K_128 : List GE := [(0, .iconst 1, 0, 0), (1, .istore_n 3, 0, 0), (2, .iconst 0, 0, 0), (3, .istore 4, 0, 0), (5, .iconst 0, 0, 0), (6, .istore 5, 0, 0), (8, .iconst 0, 0, 0), (9, .istore 6, 0, 0), (11, .iconst 0, 0, 0), (12, .istore 7, 0, 0), (14, .iload 7, 0, 0), (16, .aload_n 0, 0, 0), (17, .invokevirtual 35, 81, 1), (20, .if_icmp .ge 90, 110, 0), (23, .iload_n 3, 0, 0), (24, .ifCond .eq 86, 110, 0), (27, .iload 4, 0, 0), (29, .aload_n 0, 0, 0), (30, .iload 7, 0, 0), (32, .invokevirtual 39, 86, 2), (35, .iadd, 0, 0), (36, .istore 4, 0, 0), (38, .aload_n 0, 0, 0), (39, .iload 7, 0, 0), (41, .invokevirtual 39, 86, 2), (44, .aload_n 0, 0, 0), (45, .iload 7, 0, 0), (47, .iconst 4, 0, 0), (48, .invokevirtual 29, 82, 3), (51, .if_icmp .lt 51, 102, 0), (54, .aload_n 0, 0, 0), (55, .aload_n 0, 0, 0), (56, .iload 7, 0, 0), (58, .iconst 1, 0, 0), (59, .aload_n 0, 0, 0), (60, .iload 7, 0, 0), (62, .invokevirtual 25, 83, 2), (65, .isub, 0, 0), (66, .invokevirtual 29, 82, 3), (69, .invokevirtual 32, 85, 2), (72, .aload_n 0, 0, 0), (73, .aload_n 0, 0, 0), (74, .iload 7, 0, 0), (76, .aload_n 0, 0, 0), (77, .iload 7, 0, 0), (79, .invokevirtual 25, 83, 2), (82, .invokevirtual 29, 82, 3), (85, .invokevirtual 32, 85, 2), (88, .isub, 0, 0), (89, .aload_n 0, 0, 0), (90, .iload 7, 0, 0), (92, .invokevirtual 39, 86, 2), (95, .if_icmp .ne 7, 102, 0), (98, .iconst 1, 0, 0), (99, .goto 4, 103, 0), (102, .iconst 0, 0, 0), (103, .istore_n 3, 0, 0), (104, .iinc 7 1, 0, 0), (107, .goto (-93), 14, 0), (110, .iconst 0, 0, 0), (111, .istore 7, 0, 0), (113, .iload 7, 0, 0), (115, .aload_n 0, 0, 0), (116, .invokevirtual 42, 88, 1), (119, .if_icmp .ge 208, 327, 0), (122, .iload_n 3, 0, 0), (123, .ifCond .eq 204, 327, 0), (126, .iload 5, 0, 0), (128, .iload 7, 0, 0), (130, .iconst 1, 0, 0), (131, .iadd, 0, 0), (132, .aload_n 0, 0, 0), (133, .invokevirtual 42, 88, 1), (136, .if_icmp .ge 12, 148, 0), (139, .aload_n 0, 0, 0), (140, .iload 7, 0, 0), (142, .invokevirtual 45, 93, 2), (145, .goto 4, 149, 0), (148, .iconst 0, 0, 0), (149, .iadd, 0, 0), (150, .istore 5, 0, 0), (152, .iconst 0, 0, 0), (153, .istore 8, 0, 0), (155, .iconst 0, 0, 0), (156, .istore 9, 0, 0), (158, .iconst 0, 0, 0), (159, .istore 10, 0, 0), (161, .iconst 0, 0, 0), (162, .istore 11, 0, 0), (164, .iload 11, 0, 0), (166, .aload_n 0, 0, 0), (167, .iload 7, 0, 0), (169, .invokevirtual 48, 90, 2), (172, .if_icmp .ge 149, 321, 0), (175, .iload_n 3, 0, 0), (176, .ifCond .eq 145, 321, 0), (179, .aload_n 0, 0, 0), (180, .iload 7, 0, 0), (182, .iload 11, 0, 0), (184, .invokevirtual 51, 91, 3), (187, .istore 12, 0, 0), (189, .aload_n 0, 0, 0), (190, .iload 12, 0, 0), (192, .invokevirtual 54, 102, 2), (195, .istore 13, 0, 0), (197, .iload 12, 0, 0), (199, .bipush 100, 0, 0), (201, .if_icmp .ge 10, 211, 0), (204, .aload_n 2, 0, 0), (205, .iload 12, 0, 0), (207, .iaload, 0, 0), (208, .goto 4, 212, 0), (211, .iconst 0, 0, 0), (212, .istore 14, 0, 0), (214, .aload_n 0, 0, 0), (215, .iload 12, 0, 0), (217, .invokevirtual 57, 92, 2), (220, .iload 11, 0, 0), (222, .if_icmp .ne 36, 258, 0), (225, .iload 13, 0, 0), (227, .iload 8, 0, 0), (229, .if_icmp .lt 29, 258, 0), (232, .iload 14, 0, 0), (234, .iload 10, 0, 0), (236, .if_icmp .eq 18, 254, 0), (239, .iload 9, 0, 0), (241, .iload 14, 0, 0), (243, .ishr, 0, 0), (244, .iconst 1, 0, 0), (245, .iand, 0, 0), (246, .ifCond .eq 8, 254, 0), (249, .iload 14, 0, 0), (251, .ifCond .ne 7, 258, 0), (254, .iconst 1, 0, 0), (255, .goto 4, 259, 0), (258, .iconst 0, 0, 0), (259, .istore_n 3, 0, 0), (260, .iload 9, 0, 0), (262, .iconst 1, 0, 0), (263, .iload 14, 0, 0), (265, .ishl, 0, 0), (266, .ior, 0, 0), (267, .istore 9, 0, 0), (269, .iload 14, 0, 0), (271, .istore 10, 0, 0), (273, .iload 13, 0, 0), (275, .iload 12, 0, 0), (277, .bipush 100, 0, 0), (279, .if_icmp .ge 10, 289, 0), (282, .aload_n 1, 0, 0), (283, .iload 12, 0, 0), (285, .iaload, 0, 0), (286, .goto 4, 290, 0), (289, .iconst 1, 0, 0), (290, .iadd, 0, 0), (291, .iconst 1, 0, 0), (292, .iadd, 0, 0), (293, .istore 8, 0, 0), (295, .iload 8, 0, 0), (297, .iconst 1, 0, 0), (298, .isub, 0, 0), (299, .iload 6, 0, 0), (301, .if_icmp .le 10, 311, 0), (304, .iload 8, 0, 0), (306, .iconst 1, 0, 0), (307, .isub, 0, 0), (308, .goto 5, 313, 0), (311, .iload 6, 0, 0), (313, .istore 6, 0, 0), (315, .iinc 11 1, 0, 0), (318, .goto (-154), 164, 0), (321, .iinc 7 1, 0, 0), (324, .goto (-211), 113, 0), (327, .iload_n 3, 0, 0), (328, .ifCond .eq 50, 378, 0), (331, .aload_n 0, 0, 0), (332, .invokevirtual 60, 87, 1), (335, .iload 4, 0, 0), (337, .if_icmp .ne 41, 378, 0), (340, .aload_n 0, 0, 0), (341, .invokevirtual 63, 94, 1), (344, .iload 5, 0, 0), (346, .if_icmp .ne 32, 378, 0), (349, .aload_n 0, 0, 0), (350, .invokevirtual 66, 103, 1), (353, .iload 6, 0, 0), (355, .if_icmp .ne 23, 378, 0), (358, .aload_n 0, 0, 0), (359, .invokestatic 69, 129, 1), (362, .iload 5, 0, 0), (364, .if_icmp .ne 14, 378, 0), (367, .aload_n 0, 0, 0), (368, .invokestatic 73, 130, 1), (371, .ifCond .eq 7, 378, 0), (374, .iconst 1, 0, 0), (375, .goto 4, 379, 0), (378, .iconst 0, 0, 0), (379, .ireturn, 0, 0)]
/-- LayeredDrawingLaw.pairs(LLayeredDrawing;)I -/
def K_129 : List GE := [(0, .iconst 0, 0, 0), (1, .istore_n 1, 0, 0), (2, .iconst 0, 0, 0), (3, .istore_n 2, 0, 0), (4, .iload_n 2, 0, 0), (5, .aload_n 0, 0, 0), (6, .invokevirtual 35, 81, 1), (9, .if_icmp .ge 51, 60, 0), (12, .iconst 0, 0, 0), (13, .istore_n 3, 0, 0), (14, .iload_n 3, 0, 0), (15, .iload_n 2, 0, 0), (16, .if_icmp .ge 38, 54, 0), (19, .iload_n 1, 0, 0), (20, .aload_n 0, 0, 0), (21, .iload_n 2, 0, 0), (22, .iload_n 3, 0, 0), (23, .invokevirtual 77, 95, 3), (26, .aload_n 0, 0, 0), (27, .iload_n 3, 0, 0), (28, .iload_n 2, 0, 0), (29, .invokevirtual 77, 95, 3), (32, .if_icmp .ne 12, 44, 0), (35, .aload_n 0, 0, 0), (36, .iload_n 2, 0, 0), (37, .iload_n 3, 0, 0), (38, .invokevirtual 77, 95, 3), (41, .goto 5, 46, 0), (44, .ldc 80, 0, (-100000)), (46, .iadd, 0, 0), (47, .istore_n 1, 0, 0), (48, .iinc 3 1, 0, 0), (51, .goto (-37), 14, 0), (54, .iinc 2 1, 0, 0), (57, .goto (-53), 4, 0), (60, .iload_n 1, 0, 0), (61, .ireturn, 0, 0)]
/-- LayeredDrawingLaw.spreads(LLayeredDrawing;)Z -/
def K_130 : List GE := [(0, .iconst 0, 0, 0), (1, .istore_n 1, 0, 0), (2, .iconst 1, 0, 0), (3, .istore_n 2, 0, 0), (4, .iconst 0, 0, 0), (5, .istore_n 3, 0, 0), (6, .iload_n 3, 0, 0), (7, .aload_n 0, 0, 0), (8, .invokevirtual 35, 81, 1), (11, .if_icmp .ge 121, 132, 0), (14, .iload_n 2, 0, 0), (15, .ifCond .eq 117, 132, 0), (18, .iconst 0, 0, 0), (19, .istore 4, 0, 0), (21, .aload_n 0, 0, 0), (22, .aload_n 0, 0, 0), (23, .iload_n 3, 0, 0), (24, .aload_n 0, 0, 0), (25, .iload_n 3, 0, 0), (26, .invokevirtual 25, 83, 2), (29, .invokevirtual 29, 82, 3), (32, .invokevirtual 32, 85, 2), (35, .istore 5, 0, 0), (37, .iload 5, 0, 0), (39, .istore 6, 0, 0), (41, .iload 6, 0, 0), (43, .iload 5, 0, 0), (45, .aload_n 0, 0, 0), (46, .iload_n 3, 0, 0), (47, .invokevirtual 39, 86, 2), (50, .iadd, 0, 0), (51, .if_icmp .ge 59, 110, 0), (54, .aload_n 0, 0, 0), (55, .aload_n 0, 0, 0), (56, .iload_n 3, 0, 0), (57, .iload 6, 0, 0), (59, .iconst 0, 0, 0), (60, .invokestatic 81, 127, 4), (63, .invokevirtual 54, 102, 2), (66, .aload_n 0, 0, 0), (67, .aload_n 0, 0, 0), (68, .iload_n 3, 0, 0), (69, .iload 6, 0, 0), (71, .iconst 1, 0, 0), (72, .invokestatic 81, 127, 4), (75, .invokevirtual 54, 102, 2), (78, .isub, 0, 0), (79, .istore 7, 0, 0), (81, .iload_n 1, 0, 0), (82, .iload 7, 0, 0), (84, .invokestatic 85, 126, 1), (87, .iadd, 0, 0), (88, .istore_n 1, 0, 0), (89, .iload 4, 0, 0), (91, .iload 7, 0, 0), (93, .ifCond .ne 7, 100, 0), (96, .iconst 1, 0, 0), (97, .goto 4, 101, 0), (100, .iconst 0, 0, 0), (101, .iadd, 0, 0), (102, .istore 4, 0, 0), (104, .iinc 6 1, 0, 0), (107, .goto (-66), 41, 0), (110, .aload_n 0, 0, 0), (111, .iload_n 3, 0, 0), (112, .invokevirtual 88, 105, 2), (115, .iload 4, 0, 0), (117, .if_icmp .ne 7, 124, 0), (120, .iconst 1, 0, 0), (121, .goto 4, 125, 0), (124, .iconst 0, 0, 0), (125, .istore_n 2, 0, 0), (126, .iinc 3 1, 0, 0), (129, .goto (-123), 6, 0), (132, .iload_n 2, 0, 0), (133, .ifCond .eq 15, 148, 0), (136, .aload_n 0, 0, 0), (137, .invokevirtual 91, 104, 1), (140, .iload_n 1, 0, 0), (141, .if_icmp .ne 7, 148, 0), (144, .iconst 1, 0, 0), (145, .goto 4, 149, 0), (148, .iconst 0, 0, 0), (149, .ireturn, 0, 0)]
/-- LayeredDrawingLaw.borders(LLayeredDrawing;[I[II)Z -/
def K_131 : List GE := [(0, .iconst 1, 0, 0), (1, .istore 4, 0, 0), (3, .iconst 1, 0, 0), (4, .istore 5, 0, 0), (6, .iload 5, 0, 0), (8, .iconst 4, 0, 0), (9, .if_icmp .ge 358, 367, 0), (12, .iload 4, 0, 0), (14, .ifCond .eq 353, 367, 0), (17, .ldc 94, 0, 100000), (19, .istore 6, 0, 0), (21, .iconst (-1), 0, 0), (22, .istore 7, 0, 0), (24, .ldc 94, 0, 100000), (26, .istore 8, 0, 0), (28, .iconst (-1), 0, 0), (29, .istore 9, 0, 0), (31, .iconst 0, 0, 0), (32, .istore 10, 0, 0), (34, .iload 10, 0, 0), (36, .iload_n 3, 0, 0), (37, .if_icmp .ge 124, 161, 0), (40, .aload_n 2, 0, 0), (41, .iload 10, 0, 0), (43, .iaload, 0, 0), (44, .iload 5, 0, 0), (46, .if_icmp .ne 109, 155, 0), (49, .aload_n 0, 0, 0), (50, .iload 10, 0, 0), (52, .invokevirtual 54, 102, 2), (55, .iload 6, 0, 0), (57, .if_icmp .ge 12, 69, 0), (60, .aload_n 0, 0, 0), (61, .iload 10, 0, 0), (63, .invokevirtual 54, 102, 2), (66, .goto 5, 71, 0), (69, .iload 6, 0, 0), (71, .istore 6, 0, 0), (73, .aload_n 0, 0, 0), (74, .iload 10, 0, 0), (76, .invokevirtual 54, 102, 2), (79, .aload_n 1, 0, 0), (80, .iload 10, 0, 0), (82, .iaload, 0, 0), (83, .iadd, 0, 0), (84, .iload 7, 0, 0), (86, .if_icmp .le 17, 103, 0), (89, .aload_n 0, 0, 0), (90, .iload 10, 0, 0), (92, .invokevirtual 54, 102, 2), (95, .aload_n 1, 0, 0), (96, .iload 10, 0, 0), (98, .iaload, 0, 0), (99, .iadd, 0, 0), (100, .goto 5, 105, 0), (103, .iload 7, 0, 0), (105, .istore 7, 0, 0), (107, .aload_n 0, 0, 0), (108, .iload 10, 0, 0), (110, .invokevirtual 32, 85, 2), (113, .iload 8, 0, 0), (115, .if_icmp .ge 12, 127, 0), (118, .aload_n 0, 0, 0), (119, .iload 10, 0, 0), (121, .invokevirtual 32, 85, 2), (124, .goto 5, 129, 0), (127, .iload 8, 0, 0), (129, .istore 8, 0, 0), (131, .aload_n 0, 0, 0), (132, .iload 10, 0, 0), (134, .invokevirtual 32, 85, 2), (137, .iload 9, 0, 0), (139, .if_icmp .le 12, 151, 0), (142, .aload_n 0, 0, 0), (143, .iload 10, 0, 0), (145, .invokevirtual 32, 85, 2), (148, .goto 5, 153, 0), (151, .iload 9, 0, 0), (153, .istore 9, 0, 0), (155, .iinc 10 1, 0, 0), (158, .goto (-124), 34, 0), (161, .iconst 0, 0, 0), (162, .istore 10, 0, 0), (164, .iconst 0, 0, 0), (165, .istore 11, 0, 0), (167, .iload 11, 0, 0), (169, .iload_n 3, 0, 0), (170, .if_icmp .ge 89, 259, 0), (173, .aload_n 0, 0, 0), (174, .iload 11, 0, 0), (176, .invokevirtual 32, 85, 2), (179, .iload 8, 0, 0), (181, .if_icmp .lt 18, 199, 0), (184, .aload_n 0, 0, 0), (185, .iload 11, 0, 0), (187, .invokevirtual 32, 85, 2), (190, .iload 9, 0, 0), (192, .if_icmp .gt 7, 199, 0), (195, .iconst 1, 0, 0), (196, .goto 4, 200, 0), (199, .iconst 0, 0, 0), (200, .istore 12, 0, 0), (202, .iload 10, 0, 0), (204, .aload_n 2, 0, 0), (205, .iload 11, 0, 0), (207, .iaload, 0, 0), (208, .iload 5, 0, 0), (210, .if_icmp .eq 39, 249, 0), (213, .iload 12, 0, 0), (215, .ifCond .eq 34, 249, 0), (218, .aload_n 0, 0, 0), (219, .iload 11, 0, 0), (221, .invokevirtual 54, 102, 2), (224, .iload 7, 0, 0), (226, .if_icmp .ge 23, 249, 0), (229, .aload_n 0, 0, 0), (230, .iload 11, 0, 0), (232, .invokevirtual 54, 102, 2), (235, .aload_n 1, 0, 0), (236, .iload 11, 0, 0), (238, .iaload, 0, 0), (239, .iadd, 0, 0), (240, .iload 6, 0, 0), (242, .if_icmp .le 7, 249, 0), (245, .iconst 1, 0, 0), (246, .goto 4, 250, 0), (249, .iconst 0, 0, 0), (250, .iadd, 0, 0), (251, .istore 10, 0, 0), (253, .iinc 11 1, 0, 0), (256, .goto (-89), 167, 0), (259, .iload 7, 0, 0), (261, .ifCond .ge 34, 295, 0), (264, .aload_n 0, 0, 0), (265, .iload 5, 0, 0), (267, .iconst 0, 0, 0), (268, .invokevirtual 95, 106, 3), (271, .bipush (-4), 0, 0), (273, .if_icmp .ne 18, 291, 0), (276, .aload_n 0, 0, 0), (277, .iload 5, 0, 0), (279, .invokevirtual 98, 107, 2), (282, .bipush (-4), 0, 0), (284, .if_icmp .ne 7, 291, 0), (287, .iconst 1, 0, 0), (288, .goto 71, 359, 0), (291, .iconst 0, 0, 0), (292, .goto 67, 359, 0), (295, .aload_n 0, 0, 0), (296, .iload 5, 0, 0), (298, .iconst 0, 0, 0), (299, .invokevirtual 95, 106, 3), (302, .iload 6, 0, 0), (304, .if_icmp .ne 54, 358, 0), (307, .aload_n 0, 0, 0), (308, .iload 5, 0, 0), (310, .iconst 1, 0, 0), (311, .invokevirtual 95, 106, 3), (314, .iload 7, 0, 0), (316, .if_icmp .ne 42, 358, 0), (319, .aload_n 0, 0, 0), (320, .iload 5, 0, 0), (322, .iconst 2, 0, 0), (323, .invokevirtual 95, 106, 3), (326, .iload 8, 0, 0), (328, .if_icmp .ne 30, 358, 0), (331, .aload_n 0, 0, 0), (332, .iload 5, 0, 0), (334, .iconst 3, 0, 0), (335, .invokevirtual 95, 106, 3), (338, .iload 9, 0, 0), (340, .if_icmp .ne 18, 358, 0), (343, .aload_n 0, 0, 0), (344, .iload 5, 0, 0), (346, .invokevirtual 98, 107, 2), (349, .iload 10, 0, 0), (351, .if_icmp .ne 7, 358, 0), (354, .iconst 1, 0, 0), (355, .goto 4, 359, 0), (358, .iconst 0, 0, 0), (359, .istore 4, 0, 0), (361, .iinc 5 1, 0, 0), (364, .goto (-358), 6, 0), (367, .iload 4, 0, 0), (369, .ifCond .eq 36, 405, 0), (372, .aload_n 0, 0, 0), (373, .iconst 0, 0, 0), (374, .iconst 0, 0, 0), (375, .invokevirtual 95, 106, 3), (378, .iconst (-1), 0, 0), (379, .if_icmp .ne 26, 405, 0), (382, .aload_n 0, 0, 0), (383, .iconst 1, 0, 0), (384, .iconst 4, 0, 0), (385, .invokevirtual 95, 106, 3), (388, .iconst (-1), 0, 0), (389, .if_icmp .ne 16, 405, 0), (392, .aload_n 0, 0, 0), (393, .iconst 4, 0, 0), (394, .invokevirtual 98, 107, 2), (397, .iconst (-1), 0, 0), (398, .if_icmp .ne 7, 405, 0), (401, .iconst 1, 0, 0), (402, .goto 4, 406, 0), (405, .iconst 0, 0, 0), (406, .ireturn, 0, 0)]
/-- LayeredDrawingLaw.aligned(LLayeredDrawing;[I)Z -/
def K_132 : List GE := [(0, .iconst 1, 0, 0), (1, .istore_n 2, 0, 0), (2, .iconst 1, 0, 0), (3, .istore_n 3, 0, 0), (4, .iload_n 3, 0, 0), (5, .aload_n 0, 0, 0), (6, .invokevirtual 42, 88, 1), (9, .if_icmp .ge 272, 281, 0), (12, .iload_n 2, 0, 0), (13, .ifCond .eq 268, 281, 0), (16, .iconst 0, 0, 0), (17, .istore 4, 0, 0), (19, .iload 4, 0, 0), (21, .aload_n 0, 0, 0), (22, .iload_n 3, 0, 0), (23, .invokevirtual 48, 90, 2), (26, .if_icmp .ge 249, 275, 0), (29, .iload_n 2, 0, 0), (30, .ifCond .eq 245, 275, 0), (33, .aload_n 0, 0, 0), (34, .iload_n 3, 0, 0), (35, .iload 4, 0, 0), (37, .invokevirtual 51, 91, 3), (40, .istore 5, 0, 0), (42, .iconst 0, 0, 0), (43, .istore 6, 0, 0), (45, .iconst 0, 0, 0), (46, .istore 7, 0, 0), (48, .iconst 0, 0, 0), (49, .istore 8, 0, 0), (51, .iload 8, 0, 0), (53, .aload_n 0, 0, 0), (54, .invokevirtual 35, 81, 1), (57, .if_icmp .ge 121, 178, 0), (60, .aload_n 0, 0, 0), (61, .aload_n 0, 0, 0), (62, .iload 8, 0, 0), (64, .aload_n 0, 0, 0), (65, .iload 8, 0, 0), (67, .invokevirtual 25, 83, 2), (70, .invokevirtual 29, 82, 3), (73, .invokevirtual 32, 85, 2), (76, .istore 9, 0, 0), (78, .iload 9, 0, 0), (80, .iload_n 3, 0, 0), (81, .if_icmp .ge 35, 116, 0), (84, .iload_n 3, 0, 0), (85, .iload 9, 0, 0), (87, .aload_n 0, 0, 0), (88, .iload 8, 0, 0), (90, .invokevirtual 39, 86, 2), (93, .iadd, 0, 0), (94, .if_icmp .gt 22, 116, 0), (97, .aload_n 0, 0, 0), (98, .iload 8, 0, 0), (100, .iload_n 3, 0, 0), (101, .iconst 1, 0, 0), (102, .isub, 0, 0), (103, .iconst 1, 0, 0), (104, .invokestatic 81, 127, 4), (107, .iload 5, 0, 0), (109, .if_icmp .ne 7, 116, 0), (112, .iconst 1, 0, 0), (113, .goto 4, 117, 0), (116, .iconst 0, 0, 0), (117, .istore 10, 0, 0), (119, .iload 7, 0, 0), (121, .iload 10, 0, 0), (123, .ifCond .eq 7, 130, 0), (126, .iconst 1, 0, 0), (127, .goto 4, 131, 0), (130, .iconst 0, 0, 0), (131, .iadd, 0, 0), (132, .istore 7, 0, 0), (134, .iload 6, 0, 0), (136, .iload 10, 0, 0), (138, .ifCond .eq 30, 168, 0), (141, .aload_n 0, 0, 0), (142, .aload_n 0, 0, 0), (143, .iload 8, 0, 0), (145, .iload_n 3, 0, 0), (146, .iconst 1, 0, 0), (147, .isub, 0, 0), (148, .iconst 0, 0, 0), (149, .invokestatic 81, 127, 4), (152, .invokevirtual 54, 102, 2), (155, .aload_n 0, 0, 0), (156, .iload 5, 0, 0), (158, .invokevirtual 54, 102, 2), (161, .if_icmp .gt 7, 168, 0), (164, .iconst 1, 0, 0), (165, .goto 4, 169, 0), (168, .iconst 0, 0, 0), (169, .iadd, 0, 0), (170, .istore 6, 0, 0), (172, .iinc 8 1, 0, 0), (175, .goto (-124), 51, 0), (178, .iload 4, 0, 0), (180, .iconst 1, 0, 0), (181, .iadd, 0, 0), (182, .aload_n 0, 0, 0), (183, .iload_n 3, 0, 0), (184, .invokevirtual 48, 90, 2), (187, .if_icmp .ne 7, 194, 0), (190, .iconst 1, 0, 0), (191, .goto 4, 195, 0), (194, .iconst 0, 0, 0), (195, .istore 8, 0, 0), (197, .iload 8, 0, 0), (199, .ifCond .ne 47, 246, 0), (202, .aload_n 0, 0, 0), (203, .aload_n 0, 0, 0), (204, .iload_n 3, 0, 0), (205, .iload 4, 0, 0), (207, .iconst 1, 0, 0), (208, .iadd, 0, 0), (209, .invokevirtual 51, 91, 3), (212, .invokevirtual 54, 102, 2), (215, .aload_n 0, 0, 0), (216, .iload 5, 0, 0), (218, .invokevirtual 54, 102, 2), (221, .iload 5, 0, 0), (223, .bipush 100, 0, 0), (225, .if_icmp .ge 10, 235, 0), (228, .aload_n 1, 0, 0), (229, .iload 5, 0, 0), (231, .iaload, 0, 0), (232, .goto 4, 236, 0), (235, .iconst 1, 0, 0), (236, .iadd, 0, 0), (237, .iconst 1, 0, 0), (238, .iadd, 0, 0), (239, .if_icmp .ne 7, 246, 0), (242, .iconst 1, 0, 0), (243, .goto 4, 247, 0), (246, .iconst 0, 0, 0), (247, .istore 9, 0, 0), (249, .iconst 2, 0, 0), (250, .iload 6, 0, 0), (252, .imul, 0, 0), (253, .iload 7, 0, 0), (255, .if_icmp .ge 8, 263, 0), (258, .iload 9, 0, 0), (260, .ifCond .eq 7, 267, 0), (263, .iconst 1, 0, 0), (264, .goto 4, 268, 0), (267, .iconst 0, 0, 0), (268, .istore_n 2, 0, 0), (269, .iinc 4 1, 0, 0), (272, .goto (-253), 19, 0), (275, .iinc 3 1, 0, 0), (278, .goto (-274), 4, 0), (281, .iload_n 2, 0, 0), (282, .ireturn, 0, 0)]
/-- LayeredDrawingLaw.number(LLayeredDrawing;I)V -/
def K_133 : List GE := [(0, .iload_n 1, 0, 0), (1, .bipush 9, 0, 0), (3, .if_icmp .le 15, 18, 0), (6, .aload_n 0, 0, 0), (7, .bipush 48, 0, 0), (9, .iload_n 1, 0, 0), (10, .bipush 10, 0, 0), (12, .idiv, 0, 0), (13, .iadd, 0, 0), (14, .invokevirtual 101, 108, 2), (17, .pop, 0, 0), (18, .aload_n 0, 0, 0), (19, .bipush 48, 0, 0), (21, .iload_n 1, 0, 0), (22, .bipush 10, 0, 0), (24, .irem, 0, 0), (25, .iadd, 0, 0), (26, .invokevirtual 101, 108, 2), (29, .pop, 0, 0), (30, .return_, 0, 0)]
/-- LayeredDrawingLaw.reads(LLayeredDrawing;II)Z -/
def K_134 : List GE := [(0, .aload_n 0, 0, 0), (1, .invokevirtual 104, 109, 1), (4, .pop, 0, 0), (5, .iload_n 2, 0, 0), (6, .iload_n 1, 0, 0), (7, .irem, 0, 0), (8, .istore_n 3, 0, 0), (9, .iload_n 3, 0, 0), (10, .iconst 1, 0, 0), (11, .iadd, 0, 0), (12, .iload_n 2, 0, 0), (13, .iconst 4, 0, 0), (14, .ishr, 0, 0), (15, .iload_n 1, 0, 0), (16, .iconst 1, 0, 0), (17, .isub, 0, 0), (18, .irem, 0, 0), (19, .iadd, 0, 0), (20, .iload_n 1, 0, 0), (21, .irem, 0, 0), (22, .istore 4, 0, 0), (24, .aload_n 0, 0, 0), (25, .invokevirtual 35, 81, 1), (28, .istore 5, 0, 0), (30, .aload_n 0, 0, 0), (31, .iload_n 3, 0, 0), (32, .invokestatic 107, 133, 2), (35, .aload_n 0, 0, 0), (36, .bipush 46, 0, 0), (38, .invokevirtual 101, 108, 2), (41, .pop, 0, 0), (42, .aload_n 0, 0, 0), (43, .bipush 48, 0, 0), (45, .iload_n 2, 0, 0), (46, .bipush 8, 0, 0), (48, .ishr, 0, 0), (49, .bipush 8, 0, 0), (51, .irem, 0, 0), (52, .iadd, 0, 0), (53, .invokevirtual 101, 108, 2), (56, .pop, 0, 0), (57, .aload_n 0, 0, 0), (58, .bipush 62, 0, 0), (60, .invokevirtual 101, 108, 2), (63, .pop, 0, 0), (64, .aload_n 0, 0, 0), (65, .iload 4, 0, 0), (67, .invokestatic 107, 133, 2), (70, .aload_n 0, 0, 0), (71, .bipush 61, 0, 0), (73, .invokevirtual 101, 108, 2), (76, .pop, 0, 0), (77, .aload_n 0, 0, 0), (78, .bipush 49, 0, 0), (80, .iload_n 2, 0, 0), (81, .bipush 11, 0, 0), (83, .ishr, 0, 0), (84, .iconst 3, 0, 0), (85, .irem, 0, 0), (86, .iadd, 0, 0), (87, .invokevirtual 101, 108, 2), (90, .pop, 0, 0), (91, .aload_n 0, 0, 0), (92, .bipush 59, 0, 0), (94, .invokevirtual 101, 108, 2), (97, .pop, 0, 0), (98, .aload_n 0, 0, 0), (99, .iload 4, 0, 0), (101, .invokestatic 107, 133, 2), (104, .aload_n 0, 0, 0), (105, .bipush 62, 0, 0), (107, .invokevirtual 101, 108, 2), (110, .pop, 0, 0), (111, .aload_n 0, 0, 0), (112, .iload_n 3, 0, 0), (113, .invokestatic 107, 133, 2), (116, .aload_n 0, 0, 0), (117, .bipush 59, 0, 0), (119, .invokevirtual 101, 108, 2), (122, .istore 6, 0, 0), (124, .aload_n 0, 0, 0), (125, .invokevirtual 111, 110, 1), (128, .bipush (-4), 0, 0), (130, .if_icmp .ne 16, 146, 0), (133, .aload_n 0, 0, 0), (134, .iconst 1, 0, 0), (135, .invokevirtual 114, 112, 2), (138, .iload_n 1, 0, 0), (139, .if_icmp .ne 7, 146, 0), (142, .iconst 1, 0, 0), (143, .goto 4, 147, 0), (146, .iconst 0, 0, 0), (147, .istore 7, 0, 0), (149, .aload_n 0, 0, 0), (150, .invokevirtual 117, 111, 1), (153, .istore 8, 0, 0), (155, .iload 7, 0, 0), (157, .ifCond .eq 59, 216, 0), (160, .iload 5, 0, 0), (162, .bipush 18, 0, 0), (164, .if_icmp .le 22, 186, 0), (167, .iload 8, 0, 0), (169, .bipush (-2), 0, 0), (171, .if_icmp .ne 45, 216, 0), (174, .aload_n 0, 0, 0), (175, .invokevirtual 35, 81, 1), (178, .iload 5, 0, 0), (180, .if_icmp .ne 36, 216, 0), (183, .goto 29, 212, 0), (186, .iload 8, 0, 0), (188, .iconst 2, 0, 0), (189, .if_icmp .ne 27, 216, 0), (192, .aload_n 0, 0, 0), (193, .invokevirtual 35, 81, 1), (196, .iload 5, 0, 0), (198, .iconst 2, 0, 0), (199, .iadd, 0, 0), (200, .if_icmp .ne 16, 216, 0), (203, .aload_n 0, 0, 0), (204, .invokevirtual 63, 94, 1), (207, .bipush (-3), 0, 0), (209, .if_icmp .ne 7, 216, 0), (212, .iconst 1, 0, 0), (213, .goto 4, 217, 0), (216, .iconst 0, 0, 0), (217, .istore 7, 0, 0), (219, .iload 7, 0, 0), (221, .ifCond .eq 109, 330, 0), (224, .iload 5, 0, 0), (226, .bipush 18, 0, 0), (228, .if_icmp .gt 98, 326, 0), (231, .aload_n 0, 0, 0), (232, .iload 5, 0, 0), (234, .iconst 0, 0, 0), (235, .invokevirtual 29, 82, 3), (238, .iload_n 3, 0, 0), (239, .if_icmp .ne 91, 330, 0), (242, .aload_n 0, 0, 0), (243, .iload 5, 0, 0), (245, .iconst 1, 0, 0), (246, .invokevirtual 29, 82, 3), (249, .iload 4, 0, 0), (251, .if_icmp .ne 79, 330, 0), (254, .aload_n 0, 0, 0), (255, .iload 5, 0, 0), (257, .iconst 2, 0, 0), (258, .invokevirtual 29, 82, 3), (261, .iload_n 2, 0, 0), (262, .bipush 8, 0, 0), (264, .ishr, 0, 0), (265, .bipush 8, 0, 0), (267, .irem, 0, 0), (268, .if_icmp .ne 62, 330, 0), (271, .aload_n 0, 0, 0), (272, .iload 5, 0, 0), (274, .iconst 3, 0, 0), (275, .invokevirtual 29, 82, 3), (278, .ifCond .ne 52, 330, 0), (281, .aload_n 0, 0, 0), (282, .iload 5, 0, 0), (284, .iconst 4, 0, 0), (285, .invokevirtual 29, 82, 3), (288, .iconst 1, 0, 0), (289, .iload_n 2, 0, 0), (290, .bipush 11, 0, 0), (292, .ishr, 0, 0), (293, .iconst 3, 0, 0), (294, .irem, 0, 0), (295, .iadd, 0, 0), (296, .if_icmp .ne 34, 330, 0), (299, .aload_n 0, 0, 0), (300, .iload 5, 0, 0), (302, .iconst 1, 0, 0), (303, .iadd, 0, 0), (304, .iconst 0, 0, 0), (305, .invokevirtual 29, 82, 3), (308, .iload 4, 0, 0), (310, .if_icmp .ne 20, 330, 0), (313, .aload_n 0, 0, 0), (314, .iload 5, 0, 0), (316, .iconst 1, 0, 0), (317, .iadd, 0, 0), (318, .iconst 4, 0, 0), (319, .invokevirtual 29, 82, 3), (322, .iconst 1, 0, 0), (323, .if_icmp .ne 7, 330, 0), (326, .iconst 1, 0, 0), (327, .goto 4, 331, 0), (330, .iconst 0, 0, 0), (331, .istore 7, 0, 0), (333, .aload_n 0, 0, 0), (334, .iload_n 3, 0, 0), (335, .invokestatic 107, 133, 2), (338, .aload_n 0, 0, 0), (339, .bipush 62, 0, 0), (341, .invokevirtual 101, 108, 2), (344, .istore 9, 0, 0), (346, .aload_n 0, 0, 0), (347, .iload_n 3, 0, 0), (348, .invokestatic 107, 133, 2), (351, .iload 7, 0, 0), (353, .ifCond .eq 50, 403, 0), (356, .aload_n 0, 0, 0), (357, .invokevirtual 111, 110, 1), (360, .iload 9, 0, 0), (362, .if_icmp .ne 41, 403, 0), (365, .iload 9, 0, 0), (367, .iload 6, 0, 0), (369, .if_icmp .le 34, 403, 0), (372, .aload_n 0, 0, 0), (373, .invokevirtual 117, 111, 1), (376, .bipush (-3), 0, 0), (378, .if_icmp .ne 25, 403, 0), (381, .aload_n 0, 0, 0), (382, .iconst 1, 0, 0), (383, .invokevirtual 120, 113, 2), (386, .iload_n 1, 0, 0), (387, .if_icmp .ne 16, 403, 0), (390, .aload_n 0, 0, 0), (391, .invokevirtual 35, 81, 1), (394, .iload 5, 0, 0), (396, .if_icmp .ne 7, 403, 0), (399, .iconst 1, 0, 0), (400, .goto 4, 404, 0), (403, .iconst 0, 0, 0), (404, .ireturn, 0, 0)]
/-- LayeredDrawingLaw.refuses(LLayeredDrawing;I)Z -/
def K_135 : List GE := [(0, .aload_n 0, 0, 0), (1, .invokevirtual 123, 114, 1), (4, .lstore_n 2, 0, 0), (5, .aload_n 0, 0, 0), (6, .iconst 0, 0, 0), (7, .iconst 0, 0, 0), (8, .invokevirtual 15, 76, 3), (11, .iconst (-1), 0, 0), (12, .if_icmp .ne 81, 93, 0), (15, .aload_n 0, 0, 0), (16, .bipush 10, 0, 0), (18, .iconst 0, 0, 0), (19, .invokevirtual 15, 76, 3), (22, .iconst (-1), 0, 0), (23, .if_icmp .ne 70, 93, 0), (26, .aload_n 0, 0, 0), (27, .iconst 1, 0, 0), (28, .iconst 4, 0, 0), (29, .invokevirtual 15, 76, 3), (32, .iconst (-1), 0, 0), (33, .if_icmp .ne 60, 93, 0), (36, .aload_n 0, 0, 0), (37, .iconst 0, 0, 0), (38, .iconst 0, 0, 0), (39, .iconst 0, 0, 0), (40, .iconst 0, 0, 0), (41, .iconst 1, 0, 0), (42, .invokevirtual 21, 77, 6), (45, .iconst (-1), 0, 0), (46, .if_icmp .ne 47, 93, 0), (49, .aload_n 0, 0, 0), (50, .iconst 0, 0, 0), (51, .iload_n 1, 0, 0), (52, .iconst 0, 0, 0), (53, .iconst 0, 0, 0), (54, .iconst 1, 0, 0), (55, .invokevirtual 21, 77, 6), (58, .iconst (-1), 0, 0), (59, .if_icmp .ne 34, 93, 0), (62, .aload_n 0, 0, 0), (63, .iconst 0, 0, 0), (64, .iconst 1, 0, 0), (65, .bipush 8, 0, 0), (67, .iconst 0, 0, 0), (68, .iconst 1, 0, 0), (69, .invokevirtual 21, 77, 6), (72, .iconst (-1), 0, 0), (73, .if_icmp .ne 20, 93, 0), (76, .aload_n 0, 0, 0), (77, .iconst 0, 0, 0), (78, .iconst 1, 0, 0), (79, .iconst 0, 0, 0), (80, .iconst 0, 0, 0), (81, .iconst 4, 0, 0), (82, .invokevirtual 21, 77, 6), (85, .iconst (-1), 0, 0), (86, .if_icmp .ne 7, 93, 0), (89, .iconst 1, 0, 0), (90, .goto 4, 94, 0), (93, .iconst 0, 0, 0), (94, .istore 4, 0, 0), (96, .iload 4, 0, 0), (98, .ifCond .eq 91, 189, 0), (101, .aload_n 0, 0, 0), (102, .iload_n 1, 0, 0), (103, .iconst 0, 0, 0), (104, .invokevirtual 127, 79, 3), (107, .iconst (-1), 0, 0), (108, .if_icmp .ne 81, 189, 0), (111, .aload_n 0, 0, 0), (112, .bipush 99, 0, 0), (114, .invokevirtual 130, 97, 2), (117, .iconst (-1), 0, 0), (118, .if_icmp .ne 71, 189, 0), (121, .aload_n 0, 0, 0), (122, .bipush 99, 0, 0), (124, .invokevirtual 54, 102, 2), (127, .iconst (-1), 0, 0), (128, .if_icmp .ne 61, 189, 0), (131, .aload_n 0, 0, 0), (132, .iconst 0, 0, 0), (133, .invokevirtual 133, 99, 2), (136, .iconst (-1), 0, 0), (137, .if_icmp .ne 52, 189, 0), (140, .aload_n 0, 0, 0), (141, .iconst 0, 0, 0), (142, .aload_n 0, 0, 0), (143, .iconst 0, 0, 0), (144, .invokevirtual 48, 90, 2), (147, .iconst 1, 0, 0), (148, .isub, 0, 0), (149, .invokevirtual 136, 100, 3), (152, .iconst (-1), 0, 0), (153, .if_icmp .ne 36, 189, 0), (156, .aload_n 0, 0, 0), (157, .iconst 0, 0, 0), (158, .iconst (-1), 0, 0), (159, .invokevirtual 51, 91, 3), (162, .iconst (-1), 0, 0), (163, .if_icmp .ne 26, 189, 0), (166, .aload_n 0, 0, 0), (167, .iconst (-1), 0, 0), (168, .invokevirtual 88, 105, 2), (171, .iconst (-1), 0, 0), (172, .if_icmp .ne 17, 189, 0), (175, .aload_n 0, 0, 0), (176, .iconst 0, 0, 0), (177, .iconst 0, 0, 0), (178, .invokevirtual 77, 95, 3), (181, .iconst (-1), 0, 0), (182, .if_icmp .ne 7, 189, 0), (185, .iconst 1, 0, 0), (186, .goto 4, 190, 0), (189, .iconst 0, 0, 0), (190, .istore 4, 0, 0), (192, .iload 4, 0, 0), (194, .ifCond .eq 44, 238, 0), (197, .aload_n 0, 0, 0), (198, .iconst 2, 0, 0), (199, .invokevirtual 114, 112, 2), (202, .iconst (-1), 0, 0), (203, .if_icmp .ne 35, 238, 0), (206, .aload_n 0, 0, 0), (207, .iconst (-1), 0, 0), (208, .invokevirtual 120, 113, 2), (211, .iconst (-1), 0, 0), (212, .if_icmp .ne 26, 238, 0), (215, .aload_n 0, 0, 0), (216, .bipush 127, 0, 0), (218, .invokevirtual 101, 108, 2), (221, .iconst (-1), 0, 0), (222, .if_icmp .ne 16, 238, 0), (225, .aload_n 0, 0, 0), (226, .invokevirtual 123, 114, 1), (229, .lload_n 2, 0, 0), (230, .lcmp, 0, 0), (231, .ifCond .ne 7, 238, 0), (234, .iconst 1, 0, 0), (235, .goto 4, 239, 0), (238, .iconst 0, 0, 0), (239, .ireturn, 0, 0)]
/-- LayeredDrawingLaw.law([I)Z -/
def K_136 : List GE := [(0, .new 16, 6, 7), (3, .dup, 0, 0), (4, .invokespecial 139, 74, 1), (7, .astore_n 1, 0, 0), (8, .bipush 12, 0, 0), (10, .newarray .int, 0, 0), (12, .astore_n 2, 0, 0), (13, .bipush 12, 0, 0), (15, .newarray .int, 0, 0), (17, .astore_n 3, 0, 0), (18, .aload_n 0, 0, 0), (19, .iconst 0, 0, 0), (20, .invokestatic 9, 124, 2), (23, .istore 4, 0, 0), (25, .iconst 2, 0, 0), (26, .iload 4, 0, 0), (28, .bipush 8, 0, 0), (30, .irem, 0, 0), (31, .iadd, 0, 0), (32, .istore 5, 0, 0), (34, .aload_n 1, 0, 0), (35, .invokevirtual 140, 89, 1), (38, .ifCond .ne 40, 78, 0), (41, .aload_n 1, 0, 0), (42, .invokevirtual 42, 88, 1), (45, .ifCond .ne 33, 78, 0), (48, .aload_n 1, 0, 0), (49, .invokevirtual 66, 103, 1), (52, .ifCond .ne 26, 78, 0), (55, .aload_n 1, 0, 0), (56, .invokevirtual 143, 78, 1), (59, .bipush (-3), 0, 0), (61, .if_icmp .ne 17, 78, 0), (64, .aload_n 1, 0, 0), (65, .iconst 0, 0, 0), (66, .invokevirtual 120, 113, 2), (69, .bipush (-3), 0, 0), (71, .if_icmp .ne 7, 78, 0), (74, .iconst 1, 0, 0), (75, .goto 4, 79, 0), (78, .iconst 0, 0, 0), (79, .istore 6, 0, 0), (81, .aload_n 1, 0, 0), (82, .aload_n 0, 0, 0), (83, .iconst 1, 0, 0), (84, .iload 5, 0, 0), (86, .iconst 4, 0, 0), (87, .iload 4, 0, 0), (89, .iconst 4, 0, 0), (90, .ishr, 0, 0), (91, .bipush 8, 0, 0), (93, .irem, 0, 0), (94, .iadd, 0, 0), (95, .iconst 2, 0, 0), (96, .invokestatic 146, 125, 6), (99, .istore 7, 0, 0), (101, .iconst 0, 0, 0), (102, .istore 8, 0, 0), (104, .iload 8, 0, 0), (106, .iload 5, 0, 0), (108, .if_icmp .ge 41, 149, 0), (111, .aload_n 2, 0, 0), (112, .iload 8, 0, 0), (114, .iconst 1, 0, 0), (115, .aload_n 0, 0, 0), (116, .iconst 1, 0, 0), (117, .iload 8, 0, 0), (119, .iadd, 0, 0), (120, .invokestatic 9, 124, 2), (123, .iconst 5, 0, 0), (124, .irem, 0, 0), (125, .iadd, 0, 0), (126, .iastore, 0, 0), (127, .aload_n 3, 0, 0), (128, .iload 8, 0, 0), (130, .aload_n 0, 0, 0), (131, .iconst 1, 0, 0), (132, .iload 8, 0, 0), (134, .iadd, 0, 0), (135, .invokestatic 9, 124, 2), (138, .iconst 4, 0, 0), (139, .ishr, 0, 0), (140, .iconst 3, 0, 0), (141, .irem, 0, 0), (142, .iastore, 0, 0), (143, .iinc 8 1, 0, 0), (146, .goto (-42), 104, 0), (149, .iload 6, 0, 0), (151, .ifCond .eq 40, 191, 0), (154, .aload_n 1, 0, 0), (155, .invokevirtual 35, 81, 1), (158, .iload 7, 0, 0), (160, .if_icmp .ne 31, 191, 0), (163, .aload_n 1, 0, 0), (164, .invokevirtual 63, 94, 1), (167, .bipush (-3), 0, 0), (169, .if_icmp .ne 22, 191, 0), (172, .aload_n 1, 0, 0), (173, .iload 5, 0, 0), (175, .aload_n 0, 0, 0), (176, .bipush 24, 0, 0), (178, .invokestatic 9, 124, 2), (181, .invokestatic 150, 134, 3), (184, .ifCond .eq 7, 191, 0), (187, .iconst 1, 0, 0), (188, .goto 4, 192, 0), (191, .iconst 0, 0, 0), (192, .istore 6, 0, 0), (194, .aload_n 1, 0, 0), (195, .invokevirtual 140, 89, 1), (198, .ifCond .ge 6, 204, 0), (201, .iload 6, 0, 0), (203, .ireturn, 0, 0), (204, .iload 6, 0, 0), (206, .ifCond .eq 36, 242, 0), (209, .aload_n 1, 0, 0), (210, .aload_n 2, 0, 0), (211, .aload_n 3, 0, 0), (212, .invokestatic 154, 128, 3), (215, .ifCond .eq 27, 242, 0), (218, .aload_n 1, 0, 0), (219, .aload_n 2, 0, 0), (220, .aload_n 3, 0, 0), (221, .iload 5, 0, 0), (223, .invokestatic 158, 131, 4), (226, .ifCond .eq 16, 242, 0), (229, .aload_n 1, 0, 0), (230, .iload 5, 0, 0), (232, .invokestatic 162, 135, 2), (235, .ifCond .eq 7, 242, 0), (238, .iconst 1, 0, 0), (239, .goto 4, 243, 0), (242, .iconst 0, 0, 0), (243, .istore 6, 0, 0), (245, .aload_n 1, 0, 0), (246, .invokevirtual 63, 94, 1), (249, .istore 8, 0, 0), (251, .aload_n 1, 0, 0), (252, .iconst 1, 0, 0), (253, .iload 4, 0, 0), (255, .bipush 8, 0, 0), (257, .ishr, 0, 0), (258, .iconst 3, 0, 0), (259, .irem, 0, 0), (260, .iadd, 0, 0), (261, .invokevirtual 133, 99, 2), (264, .istore 9, 0, 0), (266, .iload 6, 0, 0), (268, .ifCond .eq 37, 305, 0), (271, .iload 9, 0, 0), (273, .iload 8, 0, 0), (275, .if_icmp .gt 30, 305, 0), (278, .iload 9, 0, 0), (280, .ifCond .lt 25, 305, 0), (283, .aload_n 1, 0, 0), (284, .invokevirtual 63, 94, 1), (287, .iload 9, 0, 0), (289, .if_icmp .ne 16, 305, 0), (292, .aload_n 1, 0, 0), (293, .aload_n 2, 0, 0), (294, .aload_n 3, 0, 0), (295, .invokestatic 154, 128, 3), (298, .ifCond .eq 7, 305, 0), (301, .iconst 1, 0, 0), (302, .goto 4, 306, 0), (305, .iconst 0, 0, 0), (306, .istore 6, 0, 0), (308, .aload_n 1, 0, 0), (309, .invokevirtual 166, 98, 1), (312, .istore 10, 0, 0), (314, .iload 6, 0, 0), (316, .ifCond .eq 23, 339, 0), (319, .iload 10, 0, 0), (321, .iload 9, 0, 0), (323, .if_icmp .gt 16, 339, 0), (326, .aload_n 1, 0, 0), (327, .aload_n 2, 0, 0), (328, .aload_n 3, 0, 0), (329, .invokestatic 154, 128, 3), (332, .ifCond .eq 7, 339, 0), (335, .iconst 1, 0, 0), (336, .goto 4, 340, 0), (339, .iconst 0, 0, 0), (340, .istore 6, 0, 0), (342, .aload_n 1, 0, 0), (343, .invokevirtual 169, 101, 1), (346, .istore 11, 0, 0), (348, .iload 6, 0, 0), (350, .ifCond .eq 54, 404, 0), (353, .iload 11, 0, 0), (355, .aload_n 1, 0, 0), (356, .invokevirtual 66, 103, 1), (359, .if_icmp .ne 45, 404, 0), (362, .aload_n 1, 0, 0), (363, .aload_n 2, 0, 0), (364, .aload_n 3, 0, 0), (365, .invokestatic 154, 128, 3), (368, .ifCond .eq 36, 404, 0), (371, .aload_n 1, 0, 0), (372, .aload_n 2, 0, 0), (373, .invokestatic 172, 132, 2), (376, .ifCond .eq 28, 404, 0), (379, .aload_n 1, 0, 0), (380, .aload_n 2, 0, 0), (381, .aload_n 3, 0, 0), (382, .iload 5, 0, 0), (384, .invokestatic 158, 131, 4), (387, .ifCond .eq 17, 404, 0), (390, .aload_n 1, 0, 0), (391, .iconst 0, 0, 0), (392, .invokevirtual 114, 112, 2), (395, .iload 5, 0, 0), (397, .if_icmp .ne 7, 404, 0), (400, .iconst 1, 0, 0), (401, .goto 4, 405, 0), (404, .iconst 0, 0, 0), (405, .istore 6, 0, 0), (407, .aload_n 1, 0, 0), (408, .invokevirtual 123, 114, 1), (411, .lstore 12, 0, 0), (413, .aload_n 1, 0, 0), (414, .iload 4, 0, 0), (416, .bipush 12, 0, 0), (418, .ishr, 0, 0), (419, .iconst 1, 0, 0), (420, .iand, 0, 0), (421, .ifCond .ne 7, 428, 0), (424, .iconst 1, 0, 0), (425, .goto 4, 429, 0), (428, .iconst 0, 0, 0), (429, .invokevirtual 176, 96, 2), (432, .istore 14, 0, 0), (434, .iload 6, 0, 0), (436, .ifCond .eq 46, 482, 0), (439, .iload 14, 0, 0), (441, .aload_n 1, 0, 0), (442, .invokevirtual 63, 94, 1), (445, .if_icmp .ne 37, 482, 0), (448, .aload_n 1, 0, 0), (449, .aload_n 2, 0, 0), (450, .aload_n 3, 0, 0), (451, .invokestatic 154, 128, 3), (454, .ifCond .eq 28, 482, 0), (457, .aload_n 1, 0, 0), (458, .iconst 0, 0, 0), (459, .iconst 0, 0, 0), (460, .invokevirtual 127, 79, 3), (463, .aload_n 3, 0, 0), (464, .iconst 0, 0, 0), (465, .iaload, 0, 0), (466, .if_icmp .ne 16, 482, 0), (469, .aload_n 1, 0, 0), (470, .invokevirtual 63, 94, 1), (473, .bipush (-3), 0, 0), (475, .if_icmp .ne 7, 482, 0), (478, .iconst 1, 0, 0), (479, .goto 4, 483, 0), (482, .iconst 0, 0, 0), (483, .istore 6, 0, 0), (485, .iload 6, 0, 0), (487, .ifCond .eq 27, 514, 0), (490, .aload_n 1, 0, 0), (491, .iconst 0, 0, 0), (492, .invokevirtual 120, 113, 2), (495, .iload 5, 0, 0), (497, .if_icmp .ne 17, 514, 0), (500, .aload_n 1, 0, 0), (501, .invokevirtual 123, 114, 1), (504, .lload 12, 0, 0), (506, .lcmp, 0, 0), (507, .ifCond .ne 7, 514, 0), (510, .iconst 1, 0, 0), (511, .goto 4, 515, 0), (514, .iconst 0, 0, 0), (515, .ireturn, 0, 0)]
/-- java/util/Arrays.fill([II)V -/
def K_226 : List GE := [(0, .iconst 0, 0, 0), (1, .istore_n 2, 0, 0), (2, .aload_n 0, 0, 0), (3, .arraylength, 0, 0), (4, .istore_n 3, 0, 0), (5, .iload_n 2, 0, 0), (6, .iload_n 3, 0, 0), (7, .if_icmp .ge 13, 20, 0), (10, .aload_n 0, 0, 0), (11, .iload_n 2, 0, 0), (12, .iload_n 1, 0, 0), (13, .iastore, 0, 0), (14, .iinc 2 1, 0, 0), (17, .goto (-12), 5, 0), (20, .return_, 0, 0)]
def g_tab : List GM := [(0, K_0, 4, 0, 2, 80, false), (0, K_1, 5, 0, 0, 0, false), (0, K_2, 6, 0, 0, 0, false), (0, K_3, 5, 1, 0, 0, false), (0, K_4, 5, 0, 0, 0, false), (0, K_5, 2, 1, 0, 0, false), (0, K_6, 3, 1, 0, 0, false), (0, K_7, 3, 1, 0, 0, false), (0, K_8, 5, 1, 0, 0, false), (0, K_9, 5, 1, 0, 0, false), (0, K_10, 7, 1, 0, 0, false), (0, K_11, 3, 1, 0, 0, false), (0, K_12, 10, 1, 0, 0, false), (1, K_13, 1, 0, 7, 124, false), (0, [], 0, 9, 0, 0, false), (1, K_15, 3, 1, 0, 0, false), (1, K_16, 6, 1, 0, 0, false), (1, K_17, 3, 2, 0, 0, false), (1, K_18, 2, 0, 0, 0, false), (2, K_19, 2, 0, 9, 156, false), (2, K_20, 2, 0, 0, 0, false), (2, K_21, 2, 1, 0, 0, false), (2, K_22, 3, 1, 0, 0, false), (2, K_23, 2, 1, 0, 0, false), (2, K_24, 2, 1, 0, 0, false), (2, K_25, 2, 0, 0, 0, false), (2, K_26, 5, 0, 0, 0, false), (2, K_27, 3, 0, 0, 0, false), (2, K_28, 3, 1, 0, 0, false), (2, K_29, 4, 1, 0, 0, false), (2, K_30, 4, 2, 0, 0, false), (2, K_31, 3, 1, 0, 0, false), (2, K_32, 6, 1, 0, 0, false), (2, K_33, 6, 0, 0, 0, false), (3, K_34, 3, 0, 13, 635, false), (3, K_35, 4, 0, 0, 0, false), (3, K_36, 3, 0, 0, 0, false), (3, K_37, 4, 0, 0, 0, false), (3, K_38, 4, 1, 0, 0, false), (3, K_39, 3, 1, 0, 0, false), (3, K_40, 3, 2, 0, 0, false), (3, K_41, 2, 1, 0, 0, false), (3, K_42, 2, 1, 0, 0, false), (3, K_43, 2, 1, 0, 0, false), (3, K_44, 3, 1, 0, 0, false), (3, K_45, 1, 0, 0, 0, false), (3, K_46, 2, 2, 0, 0, false), (3, K_47, 3, 0, 0, 0, false), (3, K_48, 3, 0, 0, 0, false), (3, K_49, 6, 0, 0, 0, false), (3, K_50, 5, 0, 0, 0, false), (3, K_51, 6, 0, 0, 0, false), (3, K_52, 7, 1, 0, 0, false), (3, K_53, 6, 2, 0, 0, false), (3, K_54, 4, 1, 0, 0, false), (3, K_55, 6, 1, 0, 0, false), (3, K_56, 3, 1, 0, 0, false), (3, K_57, 7, 1, 0, 0, false), (3, K_58, 3, 0, 0, 0, false), (3, K_59, 7, 0, 0, 0, false), (3, K_60, 5, 0, 0, 0, false), (3, K_61, 3, 2, 0, 0, false), (3, K_62, 8, 0, 0, 0, false), (3, K_63, 3, 0, 0, 0, false), (3, K_64, 5, 1, 0, 0, false), (4, K_65, 1, 0, 10, 253, false), (5, K_66, 1, 0, 1, 100, false), (5, K_67, 2, 0, 0, 0, false), (5, K_68, 3, 1, 0, 0, false), (5, K_69, 2, 2, 0, 0, false), (5, K_70, 6, 1, 0, 0, false), (5, K_71, 5, 1, 0, 0, false), (5, K_72, 3, 1, 0, 0, false), (5, K_73, 2, 2, 0, 0, false), (6, K_74, 2, 0, 60, 1663, false), (0, [], 0, 9, 0, 0, false), (6, K_76, 4, 1, 0, 0, false), (6, K_77, 7, 1, 0, 0, false), (6, K_78, 1, 1, 0, 0, false), (6, K_79, 4, 1, 0, 0, false), (0, [], 0, 9, 0, 0, false), (6, K_81, 1, 1, 0, 0, false), (6, K_82, 3, 1, 0, 0, false), (6, K_83, 2, 1, 0, 0, false), (0, [], 0, 9, 0, 0, false), (6, K_85, 2, 1, 0, 0, false), (6, K_86, 2, 1, 0, 0, false), (6, K_87, 1, 1, 0, 0, false), (6, K_88, 1, 1, 0, 0, false), (6, K_89, 2, 1, 0, 0, false), (6, K_90, 2, 1, 0, 0, false), (6, K_91, 3, 1, 0, 0, false), (6, K_92, 3, 1, 0, 0, false), (6, K_93, 2, 1, 0, 0, false), (6, K_94, 1, 1, 0, 0, false), (6, K_95, 3, 1, 0, 0, false), (6, K_96, 2, 1, 0, 0, false), (6, K_97, 3, 1, 0, 0, false), (6, K_98, 1, 1, 0, 0, false), (6, K_99, 3, 1, 0, 0, false), (6, K_100, 3, 1, 0, 0, false), (6, K_101, 1, 1, 0, 0, false), (6, K_102, 3, 1, 0, 0, false), (6, K_103, 1, 1, 0, 0, false), (6, K_104, 1, 1, 0, 0, false), (6, K_105, 2, 1, 0, 0, false), (6, K_106, 3, 1, 0, 0, false), (6, K_107, 2, 1, 0, 0, false), (6, K_108, 2, 1, 0, 0, false), (6, K_109, 2, 1, 0, 0, false), (6, K_110, 1, 1, 0, 0, false), (6, K_111, 3, 1, 0, 0, false), (6, K_112, 3, 1, 0, 0, false), (6, K_113, 3, 1, 0, 0, false), (6, K_114, 4, 3, 0, 0, false), (6, K_115, 7, 3, 0, 0, false), (6, K_116, 1, 0, 0, 0, false), (6, K_117, 1, 0, 0, 0, false), (6, K_118, 2, 2, 0, 0, false), (6, K_119, 2, 2, 0, 0, false), (6, K_120, 2, 2, 0, 0, false), (6, K_121, 1, 2, 0, 0, false), (6, K_122, 1, 2, 0, 0, false), (6, K_123, 2, 4, 0, 0, false), (10, K_124, 2, 1, 0, 0, true), (10, K_125, 11, 1, 0, 0, true), (10, K_126, 1, 1, 0, 0, false), (10, K_127, 7, 1, 0, 0, false), (10, K_128, 15, 2, 0, 0, false), (10, K_129, 4, 1, 0, 0, false), (10, K_130, 8, 2, 0, 0, false), (10, K_131, 13, 2, 0, 0, false), (10, K_132, 11, 2, 0, 0, false), (10, K_133, 2, 0, 0, 0, false), (10, K_134, 10, 2, 0, 0, false), (10, K_135, 5, 2, 0, 0, false), (10, K_136, 15, 2, 600000, 7302250, true), (0, [], 0, 9, 0, 0, false), (0, [], 0, 9, 0, 0, false), (0, [], 0, 9, 0, 0, false), (0, [], 0, 9, 0, 0, false), (0, [], 0, 9, 0, 0, false), (0, [], 0, 9, 0, 0, false), (0, [], 0, 9, 0, 0, false), (0, [], 0, 9, 0, 0, false), (0, [], 0, 9, 0, 0, false), (0, [], 0, 9, 0, 0, false), (0, [], 0, 9, 0, 0, false), (0, [], 0, 9, 0, 0, false), (0, [], 0, 9, 0, 0, false), (0, [], 0, 9, 0, 0, false), (0, [], 0, 9, 0, 0, false), (0, [], 0, 9, 0, 0, false), (0, [], 0, 9, 0, 0, false), (0, [], 0, 9, 0, 0, false), (0, [], 0, 9, 0, 0, false), (0, [], 0, 9, 0, 0, false), (0, [], 0, 9, 0, 0, false), (0, [], 0, 9, 0, 0, false), (0, [], 0, 9, 0, 0, false), (0, [], 0, 9, 0, 0, false), (0, [], 0, 9, 0, 0, false), (0, [], 0, 9, 0, 0, false), (0, [], 0, 9, 0, 0, false), (0, [], 0, 9, 0, 0, false), (0, [], 0, 9, 0, 0, false), (0, [], 0, 9, 0, 0, false), (0, [], 0, 9, 0, 0, false), (0, [], 0, 9, 0, 0, false), (0, [], 0, 9, 0, 0, false), (0, [], 0, 9, 0, 0, false), (0, [], 0, 9, 0, 0, false), (0, [], 0, 9, 0, 0, false), (0, [], 0, 9, 0, 0, false), (0, [], 0, 9, 0, 0, false), (0, [], 0, 9, 0, 0, false), (0, [], 0, 9, 0, 0, false), (0, [], 0, 9, 0, 0, false), (0, [], 0, 9, 0, 0, false), (0, [], 0, 9, 0, 0, false), (0, [], 0, 9, 0, 0, false), (0, [], 0, 9, 0, 0, false), (0, [], 0, 9, 0, 0, false), (0, [], 0, 9, 0, 0, false), (0, [], 0, 9, 0, 0, false), (0, [], 0, 9, 0, 0, false), (0, [], 0, 9, 0, 0, false), (0, [], 0, 9, 0, 0, false), (0, [], 0, 9, 0, 0, false), (0, [], 0, 9, 0, 0, false), (0, [], 0, 9, 0, 0, false), (0, [], 0, 9, 0, 0, false), (0, [], 0, 9, 0, 0, false), (0, [], 0, 9, 0, 0, false), (0, [], 0, 9, 0, 0, false), (0, [], 0, 9, 0, 0, false), (0, [], 0, 9, 0, 0, false), (0, [], 0, 9, 0, 0, false), (0, [], 0, 9, 0, 0, false), (0, [], 0, 9, 0, 0, false), (0, [], 0, 9, 0, 0, false), (0, [], 0, 9, 0, 0, false), (0, [], 0, 9, 0, 0, false), (0, [], 0, 9, 0, 0, false), (0, [], 0, 9, 0, 0, false), (0, [], 0, 9, 0, 0, false), (0, [], 0, 9, 0, 0, false), (0, [], 0, 9, 0, 0, false), (0, [], 0, 9, 0, 0, false), (0, [], 0, 9, 0, 0, false), (0, [], 0, 9, 0, 0, false), (0, [], 0, 9, 0, 0, false), (0, [], 0, 9, 0, 0, false), (0, [], 0, 9, 0, 0, false), (0, [], 0, 9, 0, 0, false), (0, [], 0, 9, 0, 0, false), (0, [], 0, 9, 0, 0, false), (0, [], 0, 9, 0, 0, false), (0, [], 0, 9, 0, 0, false), (0, [], 0, 9, 0, 0, false), (0, [], 0, 9, 0, 0, false), (0, [], 0, 9, 0, 0, false), (0, [], 0, 9, 0, 0, false), (0, [], 0, 9, 0, 0, false), (0, [], 0, 9, 0, 0, false), (0, [], 0, 9, 0, 0, false), (9, K_226, 4, 0, 0, 0, false)]
def g_T (j : Nat) : GM := g_tab.getD j (0, [], 0, 9, 0, 0, false)
def g_F (k : Nat) : List Nat := match k with
  | 0 => [2, 2, 2, 2, 2]
  | 1 => [0, 0, 2, 2, 2, 2, 2, 2, 2]
  | 2 => [2, 0, 2, 2, 2, 2, 2, 2, 2, 2, 2]
  | 3 => [2, 2, 0, 2, 2, 2, 2, 2, 2, 2, 2, 2, 2, 2, 2, 2]
  | 4 => [1, 1, 2, 2, 2]
  | 5 => [2, 0, 0, 0, 0, 0, 0, 0, 0]
  | 6 => [2, 2, 2, 2, 2, 2, 1]
  | _ => []
def g_Yt : List MethodName := [⟨"LayeredDrawing$Coordinates", "<init>", "(LLayeredDrawing$Graph;LLayeredDrawing$Layering;LLayeredDrawing$Order;)V"⟩, ⟨"LayeredDrawing$Coordinates", "pack", "()V"⟩, ⟨"LayeredDrawing$Coordinates", "alignLayers", "()V"⟩, ⟨"LayeredDrawing$Coordinates", "desiredLeft", "(II)I"⟩, ⟨"LayeredDrawing$Coordinates", "putSorted", "(II)V"⟩, ⟨"LayeredDrawing$Coordinates", "rightOf", "(I)I"⟩, ⟨"LayeredDrawing$Coordinates", "greatestRight", "()I"⟩, ⟨"LayeredDrawing$Coordinates", "shift", "(II)I"⟩, ⟨"LayeredDrawing$Coordinates", "sumOfShifts", "()I"⟩, ⟨"LayeredDrawing$Coordinates", "straightParts", "(I)I"⟩, ⟨"LayeredDrawing$Coordinates", "sideOf", "(II)I"⟩, ⟨"LayeredDrawing$Coordinates", "sideOfNode", "(II)I"⟩, ⟨"LayeredDrawing$Coordinates", "countIntruders", "(I)I"⟩, ⟨"LayeredDrawing$Graph", "<init>", "()V"⟩, ⟨"", "", ""⟩, ⟨"LayeredDrawing$Graph", "putNode", "(II)I"⟩, ⟨"LayeredDrawing$Graph", "putEdge", "(IIIII)I"⟩, ⟨"LayeredDrawing$Graph", "hasGroup", "(I)Z"⟩, ⟨"LayeredDrawing$Graph", "copyFrom", "(LLayeredDrawing$Graph;)V"⟩, ⟨"LayeredDrawing$Layering", "<init>", "(LLayeredDrawing$Graph;)V"⟩, ⟨"LayeredDrawing$Layering", "compute", "()V"⟩, ⟨"LayeredDrawing$Layering", "span", "(I)I"⟩, ⟨"LayeredDrawing$Layering", "spanOfAll", "()I"⟩, ⟨"LayeredDrawing$Layering", "upperPort", "(I)I"⟩, ⟨"LayeredDrawing$Layering", "lowerPort", "(I)I"⟩, ⟨"LayeredDrawing$Layering", "findDirections", "()V"⟩, ⟨"LayeredDrawing$Layering", "visitNode", "(LLayeredDrawing$Layering;II)V"⟩, ⟨"LayeredDrawing$Layering", "findLayers", "()V"⟩, ⟨"LayeredDrawing$Layering", "pushDown", "()I"⟩, ⟨"LayeredDrawing$Layering", "pushOnce", "()I"⟩, ⟨"LayeredDrawing$Layering", "betterFlow", "(I)Z"⟩, ⟨"LayeredDrawing$Layering", "pusherOf", "(I)I"⟩, ⟨"LayeredDrawing$Layering", "flowOfCycle", "(I)I"⟩, ⟨"LayeredDrawing$Layering", "moveFlow", "(II)V"⟩, ⟨"LayeredDrawing$Order", "<init>", "(LLayeredDrawing$Graph;LLayeredDrawing$Layering;)V"⟩, ⟨"LayeredDrawing$Order", "build", "()V"⟩, ⟨"LayeredDrawing$Order", "putVertex", "(II)V"⟩, ⟨"LayeredDrawing$Order", "orderByNames", "()V"⟩, ⟨"LayeredDrawing$Order", "named", "(I)I"⟩, ⟨"LayeredDrawing$Order", "onEdge", "(II)I"⟩, ⟨"LayeredDrawing$Order", "hasPartBelow", "(II)Z"⟩, ⟨"LayeredDrawing$Order", "groupAt", "(I)I"⟩, ⟨"LayeredDrawing$Order", "widthAt", "(I)I"⟩, ⟨"LayeredDrawing$Order", "sizeOf", "(I)I"⟩, ⟨"LayeredDrawing$Order", "at", "(II)I"⟩, ⟨"LayeredDrawing$Order", "remember", "()V"⟩, ⟨"LayeredDrawing$Order", "isReordered", "()Z"⟩, ⟨"LayeredDrawing$Order", "takeOrder", "([I)V"⟩, ⟨"LayeredDrawing$Order", "setPlaces", "(I)V"⟩, ⟨"LayeredDrawing$Order", "swap", "(II)V"⟩, ⟨"LayeredDrawing$Order", "moveTo", "(II)V"⟩, ⟨"LayeredDrawing$Order", "closeGroups", "(I)V"⟩, ⟨"LayeredDrawing$Order", "putGroup", "(IIII)I"⟩, ⟨"LayeredDrawing$Order", "groupsTogether", "(I)Z"⟩, ⟨"LayeredDrawing$Order", "spotOf", "(II)I"⟩, ⟨"LayeredDrawing$Order", "countBelow", "(I)I"⟩, ⟨"LayeredDrawing$Order", "countAll", "()I"⟩, ⟨"LayeredDrawing$Order", "countBetween", "(II)I"⟩, ⟨"LayeredDrawing$Order", "sweepThrough", "(Z)V"⟩, ⟨"LayeredDrawing$Order", "orderByWeights", "(II)V"⟩, ⟨"LayeredDrawing$Order", "weigh", "(II)V"⟩, ⟨"LayeredDrawing$Order", "isLighter", "(II)Z"⟩, ⟨"LayeredDrawing$Order", "siftVertex", "(I)V"⟩, ⟨"LayeredDrawing$Order", "siftEveryVertex", "()V"⟩, ⟨"LayeredDrawing$Order", "improve", "(I)I"⟩, ⟨"LayeredDrawing$Slot", "<init>", "()V"⟩, ⟨"LayeredDrawing$Text", "<init>", "()V"⟩, ⟨"LayeredDrawing$Text", "put", "(C)V"⟩, ⟨"LayeredDrawing$Text", "findFault", "(I)I"⟩, ⟨"LayeredDrawing$Text", "readEdge", "(I)Z"⟩, ⟨"LayeredDrawing$Text", "readNumber", "(II)I"⟩, ⟨"LayeredDrawing$Text", "readOption", "(CCCI)I"⟩, ⟨"LayeredDrawing$Text", "readDigit", "(CC)I"⟩, ⟨"LayeredDrawing$Text", "take", "(C)Z"⟩, ⟨"LayeredDrawing", "<init>", "()V"⟩, ⟨"", "", ""⟩, ⟨"LayeredDrawing", "addNode", "(II)I"⟩, ⟨"LayeredDrawing", "addEdge", "(IIIII)I"⟩, ⟨"LayeredDrawing", "removeEdge", "()I"⟩, ⟨"LayeredDrawing", "setGroup", "(II)I"⟩, ⟨"", "", ""⟩, ⟨"LayeredDrawing", "edges", "()I"⟩, ⟨"LayeredDrawing", "edge", "(II)I"⟩, ⟨"LayeredDrawing", "reversed", "(I)I"⟩, ⟨"", "", ""⟩, ⟨"LayeredDrawing", "layerOf", "(I)I"⟩, ⟨"LayeredDrawing", "lengthOf", "(I)I"⟩, ⟨"LayeredDrawing", "totalLength", "()I"⟩, ⟨"LayeredDrawing", "layers", "()I"⟩, ⟨"LayeredDrawing", "layOut", "()I"⟩, ⟨"LayeredDrawing", "vertices", "(I)I"⟩, ⟨"LayeredDrawing", "vertex", "(II)I"⟩, ⟨"LayeredDrawing", "placeOf", "(I)I"⟩, ⟨"LayeredDrawing", "crossingsBelow", "(I)I"⟩, ⟨"LayeredDrawing", "crossings", "()I"⟩, ⟨"LayeredDrawing", "crossingsOf", "(II)I"⟩, ⟨"LayeredDrawing", "sweep", "(Z)I"⟩, ⟨"LayeredDrawing", "sift", "(I)I"⟩, ⟨"LayeredDrawing", "siftAll", "()I"⟩, ⟨"LayeredDrawing", "reduce", "(I)I"⟩, ⟨"LayeredDrawing", "exchange", "(II)I"⟩, ⟨"LayeredDrawing", "align", "()I"⟩, ⟨"LayeredDrawing", "left", "(I)I"⟩, ⟨"LayeredDrawing", "width", "()I"⟩, ⟨"LayeredDrawing", "spread", "()I"⟩, ⟨"LayeredDrawing", "straight", "(I)I"⟩, ⟨"LayeredDrawing", "border", "(II)I"⟩, ⟨"LayeredDrawing", "intruders", "(I)I"⟩, ⟨"LayeredDrawing", "append", "(I)I"⟩, ⟨"LayeredDrawing", "clearText", "()I"⟩, ⟨"LayeredDrawing", "faultPosition", "()I"⟩, ⟨"LayeredDrawing", "read", "()I"⟩, ⟨"LayeredDrawing", "keep", "(I)I"⟩, ⟨"LayeredDrawing", "restore", "(I)I"⟩, ⟨"LayeredDrawing", "checksum", "()J"⟩, ⟨"LayeredDrawing", "withDrawing", "(J)J"⟩, ⟨"LayeredDrawing", "graphChanged", "()V"⟩, ⟨"LayeredDrawing", "packIfReordered", "()V"⟩, ⟨"LayeredDrawing", "isNode", "(I)Z"⟩, ⟨"LayeredDrawing", "isEdge", "(I)Z"⟩, ⟨"LayeredDrawing", "isLayer", "(I)Z"⟩, ⟨"LayeredDrawing", "isPort", "(I)Z"⟩, ⟨"LayeredDrawing", "isGroup", "(I)Z"⟩, ⟨"LayeredDrawing", "slotNumbered", "(I)LLayeredDrawing$Slot;"⟩, ⟨"LayeredDrawingLaw", "cell", "([II)I"⟩, ⟨"LayeredDrawingLaw", "graph", "(LLayeredDrawing;[IIIII)I"⟩, ⟨"LayeredDrawingLaw", "size", "(I)I"⟩, ⟨"LayeredDrawingLaw", "end", "(LLayeredDrawing;III)I"⟩, ⟨"LayeredDrawingLaw", "sound", "(LLayeredDrawing;[I[I)Z"⟩, ⟨"LayeredDrawingLaw", "pairs", "(LLayeredDrawing;)I"⟩, ⟨"LayeredDrawingLaw", "spreads", "(LLayeredDrawing;)Z"⟩, ⟨"LayeredDrawingLaw", "borders", "(LLayeredDrawing;[I[II)Z"⟩, ⟨"LayeredDrawingLaw", "aligned", "(LLayeredDrawing;[I)Z"⟩, ⟨"LayeredDrawingLaw", "number", "(LLayeredDrawing;I)V"⟩, ⟨"LayeredDrawingLaw", "reads", "(LLayeredDrawing;II)Z"⟩, ⟨"LayeredDrawingLaw", "refuses", "(LLayeredDrawing;I)Z"⟩, ⟨"LayeredDrawingLaw", "law", "([I)Z"⟩, ⟨"", "", ""⟩, ⟨"", "", ""⟩, ⟨"", "", ""⟩, ⟨"", "", ""⟩, ⟨"", "", ""⟩, ⟨"", "", ""⟩, ⟨"", "", ""⟩, ⟨"", "", ""⟩, ⟨"", "", ""⟩, ⟨"", "", ""⟩, ⟨"", "", ""⟩, ⟨"", "", ""⟩, ⟨"", "", ""⟩, ⟨"", "", ""⟩, ⟨"", "", ""⟩, ⟨"", "", ""⟩, ⟨"", "", ""⟩, ⟨"", "", ""⟩, ⟨"", "", ""⟩, ⟨"", "", ""⟩, ⟨"", "", ""⟩, ⟨"", "", ""⟩, ⟨"", "", ""⟩, ⟨"", "", ""⟩, ⟨"", "", ""⟩, ⟨"", "", ""⟩, ⟨"", "", ""⟩, ⟨"", "", ""⟩, ⟨"", "", ""⟩, ⟨"", "", ""⟩, ⟨"", "", ""⟩, ⟨"", "", ""⟩, ⟨"", "", ""⟩, ⟨"", "", ""⟩, ⟨"", "", ""⟩, ⟨"", "", ""⟩, ⟨"", "", ""⟩, ⟨"", "", ""⟩, ⟨"", "", ""⟩, ⟨"", "", ""⟩, ⟨"", "", ""⟩, ⟨"", "", ""⟩, ⟨"", "", ""⟩, ⟨"", "", ""⟩, ⟨"", "", ""⟩, ⟨"", "", ""⟩, ⟨"", "", ""⟩, ⟨"", "", ""⟩, ⟨"", "", ""⟩, ⟨"", "", ""⟩, ⟨"", "", ""⟩, ⟨"", "", ""⟩, ⟨"", "", ""⟩, ⟨"", "", ""⟩, ⟨"", "", ""⟩, ⟨"", "", ""⟩, ⟨"", "", ""⟩, ⟨"", "", ""⟩, ⟨"", "", ""⟩, ⟨"", "", ""⟩, ⟨"", "", ""⟩, ⟨"", "", ""⟩, ⟨"", "", ""⟩, ⟨"", "", ""⟩, ⟨"", "", ""⟩, ⟨"", "", ""⟩, ⟨"", "", ""⟩, ⟨"", "", ""⟩, ⟨"", "", ""⟩, ⟨"", "", ""⟩, ⟨"", "", ""⟩, ⟨"", "", ""⟩, ⟨"", "", ""⟩, ⟨"", "", ""⟩, ⟨"", "", ""⟩, ⟨"", "", ""⟩, ⟨"", "", ""⟩, ⟨"", "", ""⟩, ⟨"", "", ""⟩, ⟨"", "", ""⟩, ⟨"", "", ""⟩, ⟨"", "", ""⟩, ⟨"", "", ""⟩, ⟨"", "", ""⟩, ⟨"", "", ""⟩, ⟨"", "", ""⟩, ⟨"", "", ""⟩, ⟨"", "", ""⟩, ⟨"", "", ""⟩, ⟨"java/util/Arrays", "fill", "([II)V"⟩]
def g_Y (j : Nat) : MethodName := g_Yt.getD j ⟨"", "", ""⟩
def g_Bt : List ByteArray := [prog_2_method_1_code, prog_2_method_2_code, prog_2_method_3_code, prog_2_method_4_code, prog_2_method_5_code, prog_2_method_6_code, prog_2_method_7_code, prog_2_method_8_code, prog_2_method_9_code, prog_2_method_10_code, prog_2_method_11_code, prog_2_method_12_code, prog_2_method_13_code, prog_3_method_1_code, ⟨#[]⟩, prog_3_method_3_code, prog_3_method_4_code, prog_3_method_5_code, prog_3_method_6_code, prog_4_method_1_code, prog_4_method_2_code, prog_4_method_3_code, prog_4_method_4_code, prog_4_method_5_code, prog_4_method_6_code, prog_4_method_7_code, prog_4_method_8_code, prog_4_method_9_code, prog_4_method_10_code, prog_4_method_11_code, prog_4_method_12_code, prog_4_method_13_code, prog_4_method_14_code, prog_4_method_15_code, prog_5_method_1_code, prog_5_method_2_code, prog_5_method_3_code, prog_5_method_4_code, prog_5_method_5_code, prog_5_method_6_code, prog_5_method_7_code, prog_5_method_8_code, prog_5_method_9_code, prog_5_method_10_code, prog_5_method_11_code, prog_5_method_12_code, prog_5_method_13_code, prog_5_method_14_code, prog_5_method_15_code, prog_5_method_16_code, prog_5_method_17_code, prog_5_method_18_code, prog_5_method_19_code, prog_5_method_20_code, prog_5_method_21_code, prog_5_method_22_code, prog_5_method_23_code, prog_5_method_24_code, prog_5_method_25_code, prog_5_method_26_code, prog_5_method_27_code, prog_5_method_28_code, prog_5_method_29_code, prog_5_method_30_code, prog_5_method_31_code, prog_6_method_1_code, prog_7_method_1_code, prog_7_method_2_code, prog_7_method_3_code, prog_7_method_4_code, prog_7_method_5_code, prog_7_method_6_code, prog_7_method_7_code, prog_7_method_8_code, prog_1_method_1_code, ⟨#[]⟩, prog_1_method_3_code, prog_1_method_4_code, prog_1_method_5_code, prog_1_method_6_code, ⟨#[]⟩, prog_1_method_8_code, prog_1_method_9_code, prog_1_method_10_code, ⟨#[]⟩, prog_1_method_12_code, prog_1_method_13_code, prog_1_method_14_code, prog_1_method_15_code, prog_1_method_16_code, prog_1_method_17_code, prog_1_method_18_code, prog_1_method_19_code, prog_1_method_20_code, prog_1_method_21_code, prog_1_method_22_code, prog_1_method_23_code, prog_1_method_24_code, prog_1_method_25_code, prog_1_method_26_code, prog_1_method_27_code, prog_1_method_28_code, prog_1_method_29_code, prog_1_method_30_code, prog_1_method_31_code, prog_1_method_32_code, prog_1_method_33_code, prog_1_method_34_code, prog_1_method_35_code, prog_1_method_36_code, prog_1_method_37_code, prog_1_method_38_code, prog_1_method_39_code, prog_1_method_40_code, prog_1_method_41_code, prog_1_method_42_code, prog_1_method_43_code, prog_1_method_44_code, prog_1_method_45_code, prog_1_method_46_code, prog_1_method_47_code, prog_1_method_48_code, prog_1_method_49_code, prog_1_method_50_code, method_2_code, method_3_code, method_4_code, method_5_code, method_6_code, method_7_code, method_8_code, method_9_code, method_10_code, method_11_code, method_12_code, method_13_code, code, ⟨#[]⟩, ⟨#[]⟩, ⟨#[]⟩, ⟨#[]⟩, ⟨#[]⟩, ⟨#[]⟩, ⟨#[]⟩, ⟨#[]⟩, ⟨#[]⟩, ⟨#[]⟩, ⟨#[]⟩, ⟨#[]⟩, ⟨#[]⟩, ⟨#[]⟩, ⟨#[]⟩, ⟨#[]⟩, ⟨#[]⟩, ⟨#[]⟩, ⟨#[]⟩, ⟨#[]⟩, ⟨#[]⟩, ⟨#[]⟩, ⟨#[]⟩, ⟨#[]⟩, ⟨#[]⟩, ⟨#[]⟩, ⟨#[]⟩, ⟨#[]⟩, ⟨#[]⟩, ⟨#[]⟩, ⟨#[]⟩, ⟨#[]⟩, ⟨#[]⟩, ⟨#[]⟩, ⟨#[]⟩, ⟨#[]⟩, ⟨#[]⟩, ⟨#[]⟩, ⟨#[]⟩, ⟨#[]⟩, ⟨#[]⟩, ⟨#[]⟩, ⟨#[]⟩, ⟨#[]⟩, ⟨#[]⟩, ⟨#[]⟩, ⟨#[]⟩, ⟨#[]⟩, ⟨#[]⟩, ⟨#[]⟩, ⟨#[]⟩, ⟨#[]⟩, ⟨#[]⟩, ⟨#[]⟩, ⟨#[]⟩, ⟨#[]⟩, ⟨#[]⟩, ⟨#[]⟩, ⟨#[]⟩, ⟨#[]⟩, ⟨#[]⟩, ⟨#[]⟩, ⟨#[]⟩, ⟨#[]⟩, ⟨#[]⟩, ⟨#[]⟩, ⟨#[]⟩, ⟨#[]⟩, ⟨#[]⟩, ⟨#[]⟩, ⟨#[]⟩, ⟨#[]⟩, ⟨#[]⟩, ⟨#[]⟩, ⟨#[]⟩, ⟨#[]⟩, ⟨#[]⟩, ⟨#[]⟩, ⟨#[]⟩, ⟨#[]⟩, ⟨#[]⟩, ⟨#[]⟩, ⟨#[]⟩, ⟨#[]⟩, ⟨#[]⟩, ⟨#[]⟩, ⟨#[]⟩, ⟨#[]⟩, ⟨#[]⟩, prog_12_method_103_code]
def g_B (j : Nat) : ByteArray := g_Bt.getD j ⟨#[]⟩
def g_Rt : List (Option FieldType) := [none, none, none, some .int, none, some .int, some .int, some .int, some .int, some .int, some .int, some .int, some .int, none, none, some .int, some .int, some .boolean, none, none, none, some .int, some .int, some .int, some .int, none, none, none, some .int, some .int, some .boolean, some .int, some .int, none, none, none, none, none, some .int, some .int, some .boolean, some .int, some .int, some .int, some .int, none, some .boolean, none, none, none, none, none, some .int, some .boolean, some .int, some .int, some .int, some .int, none, none, none, some .boolean, none, none, some .int, none, none, none, some .int, some .boolean, some .int, some .int, some .int, some .boolean, none, none, some .int, some .int, some .int, some .int, none, some .int, some .int, some .int, none, some .int, some .int, some .int, some .int, some .int, some .int, some .int, some .int, some .int, some .int, some .int, some .int, some .int, some .int, some .int, some .int, some .int, some .int, some .int, some .int, some .int, some .int, some .int, some .int, some .int, some .int, some .int, some .int, some .int, some .long, some .long, none, none, some .boolean, some .boolean, some .boolean, some .boolean, some .boolean, some (.object "LayeredDrawing$Slot"), some .int, some .int, some .int, some .int, some .boolean, some .int, some .boolean, some .boolean, some .boolean, none, some .boolean, some .boolean, some .boolean, none, none, none, none, none, none, none, none, none, none, none, none, none, none, none, none, none, none, none, none, none, none, none, none, none, none, none, none, none, none, none, none, none, none, none, none, none, none, none, none, none, none, none, none, none, none, none, none, none, none, none, none, none, none, none, none, none, none, none, none, none, none, none, none, none, none, none, none, none, none, none, none, none, none, none, none, none, none, none, none, none, none, none, none, none, none, none, none, none, none]
def g_R (j : Nat) : Option FieldType := g_Rt.getD j none
def g_good : List Jvm.Cond := lw_tbl.filter goodWord
def g_nests : List (String × Nat × MethodName × String) := [("LayeredDrawing", 9, ⟨"LayeredDrawing$Graph", "<init>", "()V"⟩, "LayeredDrawing"), ("LayeredDrawing", 45, ⟨"LayeredDrawing$Text", "<init>", "()V"⟩, "LayeredDrawing"), ("LayeredDrawing", 56, ⟨"LayeredDrawing$Slot", "<init>", "()V"⟩, "LayeredDrawing"), ("LayeredDrawing$Slot", 20, ⟨"LayeredDrawing$Graph", "<init>", "()V"⟩, "LayeredDrawing")]
def g_E : String := "LayeredDrawing$Slot"
end
section
/-! the facts of the tables, row by row (written by a program) -/
theorem in_good {P : List (Nat × Jvm.Cond)} (hP : P.all (fun q => decide (lw_tbl[q.1]? = some q.2) && goodWord q.2) = true) (i : Nat) {k : Nat} {w : Jvm.Cond} (h : P[i]? = some (k, w)) : w ∈ g_good := by
  have h1 := List.all_eq_true.mp hP _ (List.mem_of_getElem? h)
  rw [Bool.and_eq_true, decide_eq_true_eq] at h1
  exact List.mem_filter.mpr ⟨List.mem_of_getElem? h1.1, h1.2⟩
theorem in_goodc {w : Jvm.Cond} (h : w ∈ tables_1) (hg : goodWord w = true) : w ∈ g_good := List.mem_filter.mpr ⟨List.mem_append_right _ h, hg⟩
def PL_c : List (Nat × Jvm.Cond) := [(237, (Jvm.Cond.laysFinal "LayeredDrawing$Coordinates" "LayeredDrawing$Coordinates" "graph" "LLayeredDrawing$Graph;")),
  (239, (Jvm.Cond.laysFinal "LayeredDrawing$Coordinates" "LayeredDrawing$Coordinates" "layering" "LLayeredDrawing$Layering;")),
  (241, (Jvm.Cond.laysFinal "LayeredDrawing$Coordinates" "LayeredDrawing$Coordinates" "order" "LLayeredDrawing$Order;")),
  (243, (Jvm.Cond.laysFinal "LayeredDrawing$Coordinates" "LayeredDrawing$Coordinates" "leftOf" "[I")),
  (245, (Jvm.Cond.laysFinal "LayeredDrawing$Coordinates" "LayeredDrawing$Coordinates" "lefts" "[I")),
  (89, (Jvm.Cond.lays "LayeredDrawing$Graph" "LayeredDrawing$Graph" "nodeCount" "I")),
  (91, (Jvm.Cond.lays "LayeredDrawing$Graph" "LayeredDrawing$Graph" "edgeCount" "I")),
  (93, (Jvm.Cond.laysFinal "LayeredDrawing$Graph" "LayeredDrawing$Graph" "widthOf" "[I")),
  (95, (Jvm.Cond.laysFinal "LayeredDrawing$Graph" "LayeredDrawing$Graph" "groupOf" "[I")),
  (97, (Jvm.Cond.laysFinal "LayeredDrawing$Graph" "LayeredDrawing$Graph" "source" "[I")),
  (99, (Jvm.Cond.laysFinal "LayeredDrawing$Graph" "LayeredDrawing$Graph" "target" "[I")),
  (101, (Jvm.Cond.laysFinal "LayeredDrawing$Graph" "LayeredDrawing$Graph" "sourcePort" "[I")),
  (103, (Jvm.Cond.laysFinal "LayeredDrawing$Graph" "LayeredDrawing$Graph" "targetPort" "[I")),
  (105, (Jvm.Cond.laysFinal "LayeredDrawing$Graph" "LayeredDrawing$Graph" "least" "[I")),
  (139, (Jvm.Cond.laysFinal "LayeredDrawing$Layering" "LayeredDrawing$Layering" "graph" "LLayeredDrawing$Graph;")),
  (141, (Jvm.Cond.lays "LayeredDrawing$Layering" "LayeredDrawing$Layering" "layerCount" "I")),
  (143, (Jvm.Cond.laysFinal "LayeredDrawing$Layering" "LayeredDrawing$Layering" "turned" "[Z")),
  (145, (Jvm.Cond.laysFinal "LayeredDrawing$Layering" "LayeredDrawing$Layering" "upper" "[I")),
  (147, (Jvm.Cond.laysFinal "LayeredDrawing$Layering" "LayeredDrawing$Layering" "lower" "[I")),
  (149, (Jvm.Cond.laysFinal "LayeredDrawing$Layering" "LayeredDrawing$Layering" "layer" "[I")),
  (151, (Jvm.Cond.laysFinal "LayeredDrawing$Layering" "LayeredDrawing$Layering" "top" "[I")),
  (153, (Jvm.Cond.laysFinal "LayeredDrawing$Layering" "LayeredDrawing$Layering" "bottom" "[I")),
  (155, (Jvm.Cond.laysFinal "LayeredDrawing$Layering" "LayeredDrawing$Layering" "visit" "[I")),
  (157, (Jvm.Cond.laysFinal "LayeredDrawing$Layering" "LayeredDrawing$Layering" "flow" "[I")),
  (159, (Jvm.Cond.laysFinal "LayeredDrawing$Layering" "LayeredDrawing$Layering" "pushedBy" "[I")),
  (192, (Jvm.Cond.laysFinal "LayeredDrawing$Order" "LayeredDrawing$Order" "graph" "LLayeredDrawing$Graph;")),
  (194, (Jvm.Cond.laysFinal "LayeredDrawing$Order" "LayeredDrawing$Order" "layering" "LLayeredDrawing$Layering;")),
  (196, (Jvm.Cond.lays "LayeredDrawing$Order" "LayeredDrawing$Order" "vertexCount" "I")),
  (198, (Jvm.Cond.laysFinal "LayeredDrawing$Order" "LayeredDrawing$Order" "nameOf" "[I")),
  (200, (Jvm.Cond.laysFinal "LayeredDrawing$Order" "LayeredDrawing$Order" "layerAt" "[I")),
  (202, (Jvm.Cond.laysFinal "LayeredDrawing$Order" "LayeredDrawing$Order" "firstBend" "[I")),
  (204, (Jvm.Cond.laysFinal "LayeredDrawing$Order" "LayeredDrawing$Order" "start" "[I")),
  (206, (Jvm.Cond.laysFinal "LayeredDrawing$Order" "LayeredDrawing$Order" "sequence" "[I")),
  (208, (Jvm.Cond.laysFinal "LayeredDrawing$Order" "LayeredDrawing$Order" "place" "[I")),
  (210, (Jvm.Cond.laysFinal "LayeredDrawing$Order" "LayeredDrawing$Order" "remembered" "[I")),
  (212, (Jvm.Cond.laysFinal "LayeredDrawing$Order" "LayeredDrawing$Order" "best" "[I")),
  (214, (Jvm.Cond.laysFinal "LayeredDrawing$Order" "LayeredDrawing$Order" "closed" "[I")),
  (216, (Jvm.Cond.laysFinal "LayeredDrawing$Order" "LayeredDrawing$Order" "weightSum" "[I")),
  (218, (Jvm.Cond.laysFinal "LayeredDrawing$Order" "LayeredDrawing$Order" "weightParts" "[I")),
  (220, (Jvm.Cond.laysFinal "LayeredDrawing$Order" "LayeredDrawing$Order" "upperSpot" "[I")),
  (222, (Jvm.Cond.laysFinal "LayeredDrawing$Order" "LayeredDrawing$Order" "lowerSpot" "[I")),
  (310, (Jvm.Cond.lays "LayeredDrawing$Slot" "LayeredDrawing$Slot" "filled" "Z")),
  (312, (Jvm.Cond.lays "LayeredDrawing$Slot" "LayeredDrawing$Slot" "laidOut" "Z")),
  (314, (Jvm.Cond.laysFinal "LayeredDrawing$Slot" "LayeredDrawing$Slot" "graph" "LLayeredDrawing$Graph;")),
  (316, (Jvm.Cond.laysFinal "LayeredDrawing$Slot" "LayeredDrawing$Slot" "order" "[I")),
  (318, (Jvm.Cond.laysFinal "LayeredDrawing$Slot" "LayeredDrawing$Slot" "leftOf" "[I")),
  (271, (Jvm.Cond.laysFinal "LayeredDrawing$Text" "LayeredDrawing$Text" "signs" "[C")),
  (273, (Jvm.Cond.lays "LayeredDrawing$Text" "LayeredDrawing$Text" "length" "I")),
  (275, (Jvm.Cond.lays "LayeredDrawing$Text" "LayeredDrawing$Text" "position" "I")),
  (277, (Jvm.Cond.lays "LayeredDrawing$Text" "LayeredDrawing$Text" "edgesFound" "I")),
  (279, (Jvm.Cond.lays "LayeredDrawing$Text" "LayeredDrawing$Text" "source" "I")),
  (281, (Jvm.Cond.lays "LayeredDrawing$Text" "LayeredDrawing$Text" "target" "I")),
  (283, (Jvm.Cond.lays "LayeredDrawing$Text" "LayeredDrawing$Text" "sourcePort" "I")),
  (285, (Jvm.Cond.lays "LayeredDrawing$Text" "LayeredDrawing$Text" "targetPort" "I")),
  (287, (Jvm.Cond.lays "LayeredDrawing$Text" "LayeredDrawing$Text" "least" "I")),
  (328, (Jvm.Cond.laysFinal "LayeredDrawing" "LayeredDrawing" "graph" "LLayeredDrawing$Graph;")),
  (330, (Jvm.Cond.laysFinal "LayeredDrawing" "LayeredDrawing" "layering" "LLayeredDrawing$Layering;")),
  (332, (Jvm.Cond.laysFinal "LayeredDrawing" "LayeredDrawing" "order" "LLayeredDrawing$Order;")),
  (334, (Jvm.Cond.laysFinal "LayeredDrawing" "LayeredDrawing" "coordinates" "LLayeredDrawing$Coordinates;")),
  (336, (Jvm.Cond.laysFinal "LayeredDrawing" "LayeredDrawing" "text" "LLayeredDrawing$Text;")),
  (338, (Jvm.Cond.laysFinal "LayeredDrawing" "LayeredDrawing" "slots" "[LLayeredDrawing$Slot;")),
  (340, (Jvm.Cond.lays "LayeredDrawing" "LayeredDrawing" "laidOut" "Z"))]
theorem pl_c : PL_c.all (fun q => decide (lw_tbl[q.1]? = some q.2) && goodWord q.2) = true := by decide +kernel
theorem ch_0 : ∀ w ∈ u_ws cn_0 ct_0 5, w ∈ g_good := by
  show ∀ w ∈ [Jvm.Cond.laysFinal "LayeredDrawing$Coordinates" "LayeredDrawing$Coordinates" "graph" "LLayeredDrawing$Graph;", Jvm.Cond.laysFinal "LayeredDrawing$Coordinates" "LayeredDrawing$Coordinates" "layering" "LLayeredDrawing$Layering;", Jvm.Cond.laysFinal "LayeredDrawing$Coordinates" "LayeredDrawing$Coordinates" "order" "LLayeredDrawing$Order;", Jvm.Cond.laysFinal "LayeredDrawing$Coordinates" "LayeredDrawing$Coordinates" "leftOf" "[I", Jvm.Cond.laysFinal "LayeredDrawing$Coordinates" "LayeredDrawing$Coordinates" "lefts" "[I"], w ∈ g_good
  exact List.forall_mem_cons.mpr ⟨(in_good pl_c 0 rfl), List.forall_mem_cons.mpr ⟨(in_good pl_c 1 rfl), List.forall_mem_cons.mpr ⟨(in_good pl_c 2 rfl), List.forall_mem_cons.mpr ⟨(in_good pl_c 3 rfl), List.forall_mem_cons.mpr ⟨(in_good pl_c 4 rfl), fun _ h => absurd h List.not_mem_nil⟩⟩⟩⟩⟩
theorem ck_0 : ∀ k, k < 5 → parseFieldDescriptor (ct_0 k).2.2.1 = some (cy_0 k) := by decide +kernel
theorem cm_0 : ∀ a, a < 5 → ∀ b, b < 5 → a ≠ b → (ct_0 a).2.1 ≠ (ct_0 b).2.1 := by decide +kernel
theorem cd_0 : ∀ k, k < 5 → (ct_0 k).1 = cn_0 := by decide +kernel
theorem cob_0 : gOb g_F 0 5 cy_0 := by
  refine ⟨rfl, fun k kd h => ?_⟩
  match k, kd, h with
  | 0, kd, h =>
    have h : some 2 = some kd := h
    cases h
    exact Or.inl ⟨_, rfl⟩
  | 1, kd, h =>
    have h : some 2 = some kd := h
    cases h
    exact Or.inl ⟨_, rfl⟩
  | 2, kd, h =>
    have h : some 2 = some kd := h
    cases h
    exact Or.inl ⟨_, rfl⟩
  | 3, kd, h =>
    have h : some 2 = some kd := h
    cases h
    exact Or.inr ⟨_, rfl⟩
  | 4, kd, h =>
    have h : some 2 = some kd := h
    cases h
    exact Or.inr ⟨_, rfl⟩
  | n + 5, kd, h =>
    have h1 : (g_F 0)[n + 5]? = none := by
      apply List.getElem?_eq_none
      show 5 ≤ n + 5
      omega
    rw [h1] at h
    cases h
theorem cf_0 (f : Nat) (hf : f < 5) : gFd g_Cl g_F g_good 0 f cn_0 ct_0 5 cy_0 := ⟨rfl, by decide, hf, ch_0, ck_0, cm_0, cd_0 f hf, fun kd h => cob_0.2 f kd h⟩
theorem ch_1 : ∀ w ∈ u_ws cn_1 ct_1 9, w ∈ g_good := by
  show ∀ w ∈ [Jvm.Cond.lays "LayeredDrawing$Graph" "LayeredDrawing$Graph" "nodeCount" "I", Jvm.Cond.lays "LayeredDrawing$Graph" "LayeredDrawing$Graph" "edgeCount" "I", Jvm.Cond.laysFinal "LayeredDrawing$Graph" "LayeredDrawing$Graph" "widthOf" "[I", Jvm.Cond.laysFinal "LayeredDrawing$Graph" "LayeredDrawing$Graph" "groupOf" "[I", Jvm.Cond.laysFinal "LayeredDrawing$Graph" "LayeredDrawing$Graph" "source" "[I", Jvm.Cond.laysFinal "LayeredDrawing$Graph" "LayeredDrawing$Graph" "target" "[I", Jvm.Cond.laysFinal "LayeredDrawing$Graph" "LayeredDrawing$Graph" "sourcePort" "[I", Jvm.Cond.laysFinal "LayeredDrawing$Graph" "LayeredDrawing$Graph" "targetPort" "[I", Jvm.Cond.laysFinal "LayeredDrawing$Graph" "LayeredDrawing$Graph" "least" "[I"], w ∈ g_good
  exact List.forall_mem_cons.mpr ⟨(in_good pl_c 5 rfl), List.forall_mem_cons.mpr ⟨(in_good pl_c 6 rfl), List.forall_mem_cons.mpr ⟨(in_good pl_c 7 rfl), List.forall_mem_cons.mpr ⟨(in_good pl_c 8 rfl), List.forall_mem_cons.mpr ⟨(in_good pl_c 9 rfl), List.forall_mem_cons.mpr ⟨(in_good pl_c 10 rfl), List.forall_mem_cons.mpr ⟨(in_good pl_c 11 rfl), List.forall_mem_cons.mpr ⟨(in_good pl_c 12 rfl), List.forall_mem_cons.mpr ⟨(in_good pl_c 13 rfl), fun _ h => absurd h List.not_mem_nil⟩⟩⟩⟩⟩⟩⟩⟩⟩
theorem ck_1 : ∀ k, k < 9 → parseFieldDescriptor (ct_1 k).2.2.1 = some (cy_1 k) := by decide +kernel
theorem cm_1 : ∀ a, a < 9 → ∀ b, b < 9 → a ≠ b → (ct_1 a).2.1 ≠ (ct_1 b).2.1 := by decide +kernel
theorem cd_1 : ∀ k, k < 9 → (ct_1 k).1 = cn_1 := by decide +kernel
theorem cob_1 : gOb g_F 1 9 cy_1 := by
  refine ⟨rfl, fun k kd h => ?_⟩
  match k, kd, h with
  | 0, kd, h =>
    have h : some 0 = some kd := h
    cases h
    exact rfl
  | 1, kd, h =>
    have h : some 0 = some kd := h
    cases h
    exact rfl
  | 2, kd, h =>
    have h : some 2 = some kd := h
    cases h
    exact Or.inr ⟨_, rfl⟩
  | 3, kd, h =>
    have h : some 2 = some kd := h
    cases h
    exact Or.inr ⟨_, rfl⟩
  | 4, kd, h =>
    have h : some 2 = some kd := h
    cases h
    exact Or.inr ⟨_, rfl⟩
  | 5, kd, h =>
    have h : some 2 = some kd := h
    cases h
    exact Or.inr ⟨_, rfl⟩
  | 6, kd, h =>
    have h : some 2 = some kd := h
    cases h
    exact Or.inr ⟨_, rfl⟩
  | 7, kd, h =>
    have h : some 2 = some kd := h
    cases h
    exact Or.inr ⟨_, rfl⟩
  | 8, kd, h =>
    have h : some 2 = some kd := h
    cases h
    exact Or.inr ⟨_, rfl⟩
  | n + 9, kd, h =>
    have h1 : (g_F 1)[n + 9]? = none := by
      apply List.getElem?_eq_none
      show 9 ≤ n + 9
      omega
    rw [h1] at h
    cases h
theorem cf_1 (f : Nat) (hf : f < 9) : gFd g_Cl g_F g_good 1 f cn_1 ct_1 9 cy_1 := ⟨rfl, by decide, hf, ch_1, ck_1, cm_1, cd_1 f hf, fun kd h => cob_1.2 f kd h⟩
theorem ch_2 : ∀ w ∈ u_ws cn_2 ct_2 11, w ∈ g_good := by
  show ∀ w ∈ [Jvm.Cond.laysFinal "LayeredDrawing$Layering" "LayeredDrawing$Layering" "graph" "LLayeredDrawing$Graph;", Jvm.Cond.lays "LayeredDrawing$Layering" "LayeredDrawing$Layering" "layerCount" "I", Jvm.Cond.laysFinal "LayeredDrawing$Layering" "LayeredDrawing$Layering" "turned" "[Z", Jvm.Cond.laysFinal "LayeredDrawing$Layering" "LayeredDrawing$Layering" "upper" "[I", Jvm.Cond.laysFinal "LayeredDrawing$Layering" "LayeredDrawing$Layering" "lower" "[I", Jvm.Cond.laysFinal "LayeredDrawing$Layering" "LayeredDrawing$Layering" "layer" "[I", Jvm.Cond.laysFinal "LayeredDrawing$Layering" "LayeredDrawing$Layering" "top" "[I", Jvm.Cond.laysFinal "LayeredDrawing$Layering" "LayeredDrawing$Layering" "bottom" "[I", Jvm.Cond.laysFinal "LayeredDrawing$Layering" "LayeredDrawing$Layering" "visit" "[I", Jvm.Cond.laysFinal "LayeredDrawing$Layering" "LayeredDrawing$Layering" "flow" "[I", Jvm.Cond.laysFinal "LayeredDrawing$Layering" "LayeredDrawing$Layering" "pushedBy" "[I"], w ∈ g_good
  exact List.forall_mem_cons.mpr ⟨(in_good pl_c 14 rfl), List.forall_mem_cons.mpr ⟨(in_good pl_c 15 rfl), List.forall_mem_cons.mpr ⟨(in_good pl_c 16 rfl), List.forall_mem_cons.mpr ⟨(in_good pl_c 17 rfl), List.forall_mem_cons.mpr ⟨(in_good pl_c 18 rfl), List.forall_mem_cons.mpr ⟨(in_good pl_c 19 rfl), List.forall_mem_cons.mpr ⟨(in_good pl_c 20 rfl), List.forall_mem_cons.mpr ⟨(in_good pl_c 21 rfl), List.forall_mem_cons.mpr ⟨(in_good pl_c 22 rfl), List.forall_mem_cons.mpr ⟨(in_good pl_c 23 rfl), List.forall_mem_cons.mpr ⟨(in_good pl_c 24 rfl), fun _ h => absurd h List.not_mem_nil⟩⟩⟩⟩⟩⟩⟩⟩⟩⟩⟩
theorem ck_2 : ∀ k, k < 11 → parseFieldDescriptor (ct_2 k).2.2.1 = some (cy_2 k) := by decide +kernel
theorem cm_2 : ∀ a, a < 11 → ∀ b, b < 11 → a ≠ b → (ct_2 a).2.1 ≠ (ct_2 b).2.1 := by decide +kernel
theorem cd_2 : ∀ k, k < 11 → (ct_2 k).1 = cn_2 := by decide +kernel
theorem cob_2 : gOb g_F 2 11 cy_2 := by
  refine ⟨rfl, fun k kd h => ?_⟩
  match k, kd, h with
  | 0, kd, h =>
    have h : some 2 = some kd := h
    cases h
    exact Or.inl ⟨_, rfl⟩
  | 1, kd, h =>
    have h : some 0 = some kd := h
    cases h
    exact rfl
  | 2, kd, h =>
    have h : some 2 = some kd := h
    cases h
    exact Or.inr ⟨_, rfl⟩
  | 3, kd, h =>
    have h : some 2 = some kd := h
    cases h
    exact Or.inr ⟨_, rfl⟩
  | 4, kd, h =>
    have h : some 2 = some kd := h
    cases h
    exact Or.inr ⟨_, rfl⟩
  | 5, kd, h =>
    have h : some 2 = some kd := h
    cases h
    exact Or.inr ⟨_, rfl⟩
  | 6, kd, h =>
    have h : some 2 = some kd := h
    cases h
    exact Or.inr ⟨_, rfl⟩
  | 7, kd, h =>
    have h : some 2 = some kd := h
    cases h
    exact Or.inr ⟨_, rfl⟩
  | 8, kd, h =>
    have h : some 2 = some kd := h
    cases h
    exact Or.inr ⟨_, rfl⟩
  | 9, kd, h =>
    have h : some 2 = some kd := h
    cases h
    exact Or.inr ⟨_, rfl⟩
  | 10, kd, h =>
    have h : some 2 = some kd := h
    cases h
    exact Or.inr ⟨_, rfl⟩
  | n + 11, kd, h =>
    have h1 : (g_F 2)[n + 11]? = none := by
      apply List.getElem?_eq_none
      show 11 ≤ n + 11
      omega
    rw [h1] at h
    cases h
theorem cf_2 (f : Nat) (hf : f < 11) : gFd g_Cl g_F g_good 2 f cn_2 ct_2 11 cy_2 := ⟨rfl, by decide, hf, ch_2, ck_2, cm_2, cd_2 f hf, fun kd h => cob_2.2 f kd h⟩
theorem ch_3 : ∀ w ∈ u_ws cn_3 ct_3 16, w ∈ g_good := by
  show ∀ w ∈ [Jvm.Cond.laysFinal "LayeredDrawing$Order" "LayeredDrawing$Order" "graph" "LLayeredDrawing$Graph;", Jvm.Cond.laysFinal "LayeredDrawing$Order" "LayeredDrawing$Order" "layering" "LLayeredDrawing$Layering;", Jvm.Cond.lays "LayeredDrawing$Order" "LayeredDrawing$Order" "vertexCount" "I", Jvm.Cond.laysFinal "LayeredDrawing$Order" "LayeredDrawing$Order" "nameOf" "[I", Jvm.Cond.laysFinal "LayeredDrawing$Order" "LayeredDrawing$Order" "layerAt" "[I", Jvm.Cond.laysFinal "LayeredDrawing$Order" "LayeredDrawing$Order" "firstBend" "[I", Jvm.Cond.laysFinal "LayeredDrawing$Order" "LayeredDrawing$Order" "start" "[I", Jvm.Cond.laysFinal "LayeredDrawing$Order" "LayeredDrawing$Order" "sequence" "[I", Jvm.Cond.laysFinal "LayeredDrawing$Order" "LayeredDrawing$Order" "place" "[I", Jvm.Cond.laysFinal "LayeredDrawing$Order" "LayeredDrawing$Order" "remembered" "[I", Jvm.Cond.laysFinal "LayeredDrawing$Order" "LayeredDrawing$Order" "best" "[I", Jvm.Cond.laysFinal "LayeredDrawing$Order" "LayeredDrawing$Order" "closed" "[I", Jvm.Cond.laysFinal "LayeredDrawing$Order" "LayeredDrawing$Order" "weightSum" "[I", Jvm.Cond.laysFinal "LayeredDrawing$Order" "LayeredDrawing$Order" "weightParts" "[I", Jvm.Cond.laysFinal "LayeredDrawing$Order" "LayeredDrawing$Order" "upperSpot" "[I", Jvm.Cond.laysFinal "LayeredDrawing$Order" "LayeredDrawing$Order" "lowerSpot" "[I"], w ∈ g_good
  exact List.forall_mem_cons.mpr ⟨(in_good pl_c 25 rfl), List.forall_mem_cons.mpr ⟨(in_good pl_c 26 rfl), List.forall_mem_cons.mpr ⟨(in_good pl_c 27 rfl), List.forall_mem_cons.mpr ⟨(in_good pl_c 28 rfl), List.forall_mem_cons.mpr ⟨(in_good pl_c 29 rfl), List.forall_mem_cons.mpr ⟨(in_good pl_c 30 rfl), List.forall_mem_cons.mpr ⟨(in_good pl_c 31 rfl), List.forall_mem_cons.mpr ⟨(in_good pl_c 32 rfl), List.forall_mem_cons.mpr ⟨(in_good pl_c 33 rfl), List.forall_mem_cons.mpr ⟨(in_good pl_c 34 rfl), List.forall_mem_cons.mpr ⟨(in_good pl_c 35 rfl), List.forall_mem_cons.mpr ⟨(in_good pl_c 36 rfl), List.forall_mem_cons.mpr ⟨(in_good pl_c 37 rfl), List.forall_mem_cons.mpr ⟨(in_good pl_c 38 rfl), List.forall_mem_cons.mpr ⟨(in_good pl_c 39 rfl), List.forall_mem_cons.mpr ⟨(in_good pl_c 40 rfl), fun _ h => absurd h List.not_mem_nil⟩⟩⟩⟩⟩⟩⟩⟩⟩⟩⟩⟩⟩⟩⟩⟩
theorem ck_3 : ∀ k, k < 16 → parseFieldDescriptor (ct_3 k).2.2.1 = some (cy_3 k) := by decide +kernel
theorem cm_3 : ∀ a, a < 16 → ∀ b, b < 16 → a ≠ b → (ct_3 a).2.1 ≠ (ct_3 b).2.1 := by decide +kernel
theorem cd_3 : ∀ k, k < 16 → (ct_3 k).1 = cn_3 := by decide +kernel
theorem cob_3 : gOb g_F 3 16 cy_3 := by
  refine ⟨rfl, fun k kd h => ?_⟩
  match k, kd, h with
  | 0, kd, h =>
    have h : some 2 = some kd := h
    cases h
    exact Or.inl ⟨_, rfl⟩
  | 1, kd, h =>
    have h : some 2 = some kd := h
    cases h
    exact Or.inl ⟨_, rfl⟩
  | 2, kd, h =>
    have h : some 0 = some kd := h
    cases h
    exact rfl
  | 3, kd, h =>
    have h : some 2 = some kd := h
    cases h
    exact Or.inr ⟨_, rfl⟩
  | 4, kd, h =>
    have h : some 2 = some kd := h
    cases h
    exact Or.inr ⟨_, rfl⟩
  | 5, kd, h =>
    have h : some 2 = some kd := h
    cases h
    exact Or.inr ⟨_, rfl⟩
  | 6, kd, h =>
    have h : some 2 = some kd := h
    cases h
    exact Or.inr ⟨_, rfl⟩
  | 7, kd, h =>
    have h : some 2 = some kd := h
    cases h
    exact Or.inr ⟨_, rfl⟩
  | 8, kd, h =>
    have h : some 2 = some kd := h
    cases h
    exact Or.inr ⟨_, rfl⟩
  | 9, kd, h =>
    have h : some 2 = some kd := h
    cases h
    exact Or.inr ⟨_, rfl⟩
  | 10, kd, h =>
    have h : some 2 = some kd := h
    cases h
    exact Or.inr ⟨_, rfl⟩
  | 11, kd, h =>
    have h : some 2 = some kd := h
    cases h
    exact Or.inr ⟨_, rfl⟩
  | 12, kd, h =>
    have h : some 2 = some kd := h
    cases h
    exact Or.inr ⟨_, rfl⟩
  | 13, kd, h =>
    have h : some 2 = some kd := h
    cases h
    exact Or.inr ⟨_, rfl⟩
  | 14, kd, h =>
    have h : some 2 = some kd := h
    cases h
    exact Or.inr ⟨_, rfl⟩
  | 15, kd, h =>
    have h : some 2 = some kd := h
    cases h
    exact Or.inr ⟨_, rfl⟩
  | n + 16, kd, h =>
    have h1 : (g_F 3)[n + 16]? = none := by
      apply List.getElem?_eq_none
      show 16 ≤ n + 16
      omega
    rw [h1] at h
    cases h
theorem cf_3 (f : Nat) (hf : f < 16) : gFd g_Cl g_F g_good 3 f cn_3 ct_3 16 cy_3 := ⟨rfl, by decide, hf, ch_3, ck_3, cm_3, cd_3 f hf, fun kd h => cob_3.2 f kd h⟩
theorem ch_4 : ∀ w ∈ u_ws cn_4 ct_4 5, w ∈ g_good := by
  show ∀ w ∈ [Jvm.Cond.lays "LayeredDrawing$Slot" "LayeredDrawing$Slot" "filled" "Z", Jvm.Cond.lays "LayeredDrawing$Slot" "LayeredDrawing$Slot" "laidOut" "Z", Jvm.Cond.laysFinal "LayeredDrawing$Slot" "LayeredDrawing$Slot" "graph" "LLayeredDrawing$Graph;", Jvm.Cond.laysFinal "LayeredDrawing$Slot" "LayeredDrawing$Slot" "order" "[I", Jvm.Cond.laysFinal "LayeredDrawing$Slot" "LayeredDrawing$Slot" "leftOf" "[I"], w ∈ g_good
  exact List.forall_mem_cons.mpr ⟨(in_good pl_c 41 rfl), List.forall_mem_cons.mpr ⟨(in_good pl_c 42 rfl), List.forall_mem_cons.mpr ⟨(in_good pl_c 43 rfl), List.forall_mem_cons.mpr ⟨(in_good pl_c 44 rfl), List.forall_mem_cons.mpr ⟨(in_good pl_c 45 rfl), fun _ h => absurd h List.not_mem_nil⟩⟩⟩⟩⟩
theorem ck_4 : ∀ k, k < 5 → parseFieldDescriptor (ct_4 k).2.2.1 = some (cy_4 k) := by decide +kernel
theorem cm_4 : ∀ a, a < 5 → ∀ b, b < 5 → a ≠ b → (ct_4 a).2.1 ≠ (ct_4 b).2.1 := by decide +kernel
theorem cd_4 : ∀ k, k < 5 → (ct_4 k).1 = cn_4 := by decide +kernel
theorem cob_4 : gOb g_F 4 5 cy_4 := by
  refine ⟨rfl, fun k kd h => ?_⟩
  match k, kd, h with
  | 0, kd, h =>
    have h : some 1 = some kd := h
    cases h
    exact rfl
  | 1, kd, h =>
    have h : some 1 = some kd := h
    cases h
    exact rfl
  | 2, kd, h =>
    have h : some 2 = some kd := h
    cases h
    exact Or.inl ⟨_, rfl⟩
  | 3, kd, h =>
    have h : some 2 = some kd := h
    cases h
    exact Or.inr ⟨_, rfl⟩
  | 4, kd, h =>
    have h : some 2 = some kd := h
    cases h
    exact Or.inr ⟨_, rfl⟩
  | n + 5, kd, h =>
    have h1 : (g_F 4)[n + 5]? = none := by
      apply List.getElem?_eq_none
      show 5 ≤ n + 5
      omega
    rw [h1] at h
    cases h
theorem cf_4 (f : Nat) (hf : f < 5) : gFd g_Cl g_F g_good 4 f cn_4 ct_4 5 cy_4 := ⟨rfl, by decide, hf, ch_4, ck_4, cm_4, cd_4 f hf, fun kd h => cob_4.2 f kd h⟩
theorem ch_5 : ∀ w ∈ u_ws cn_5 ct_5 9, w ∈ g_good := by
  show ∀ w ∈ [Jvm.Cond.laysFinal "LayeredDrawing$Text" "LayeredDrawing$Text" "signs" "[C", Jvm.Cond.lays "LayeredDrawing$Text" "LayeredDrawing$Text" "length" "I", Jvm.Cond.lays "LayeredDrawing$Text" "LayeredDrawing$Text" "position" "I", Jvm.Cond.lays "LayeredDrawing$Text" "LayeredDrawing$Text" "edgesFound" "I", Jvm.Cond.lays "LayeredDrawing$Text" "LayeredDrawing$Text" "source" "I", Jvm.Cond.lays "LayeredDrawing$Text" "LayeredDrawing$Text" "target" "I", Jvm.Cond.lays "LayeredDrawing$Text" "LayeredDrawing$Text" "sourcePort" "I", Jvm.Cond.lays "LayeredDrawing$Text" "LayeredDrawing$Text" "targetPort" "I", Jvm.Cond.lays "LayeredDrawing$Text" "LayeredDrawing$Text" "least" "I"], w ∈ g_good
  exact List.forall_mem_cons.mpr ⟨(in_good pl_c 46 rfl), List.forall_mem_cons.mpr ⟨(in_good pl_c 47 rfl), List.forall_mem_cons.mpr ⟨(in_good pl_c 48 rfl), List.forall_mem_cons.mpr ⟨(in_good pl_c 49 rfl), List.forall_mem_cons.mpr ⟨(in_good pl_c 50 rfl), List.forall_mem_cons.mpr ⟨(in_good pl_c 51 rfl), List.forall_mem_cons.mpr ⟨(in_good pl_c 52 rfl), List.forall_mem_cons.mpr ⟨(in_good pl_c 53 rfl), List.forall_mem_cons.mpr ⟨(in_good pl_c 54 rfl), fun _ h => absurd h List.not_mem_nil⟩⟩⟩⟩⟩⟩⟩⟩⟩
theorem ck_5 : ∀ k, k < 9 → parseFieldDescriptor (ct_5 k).2.2.1 = some (cy_5 k) := by decide +kernel
theorem cm_5 : ∀ a, a < 9 → ∀ b, b < 9 → a ≠ b → (ct_5 a).2.1 ≠ (ct_5 b).2.1 := by decide +kernel
theorem cd_5 : ∀ k, k < 9 → (ct_5 k).1 = cn_5 := by decide +kernel
theorem cob_5 : gOb g_F 5 9 cy_5 := by
  refine ⟨rfl, fun k kd h => ?_⟩
  match k, kd, h with
  | 0, kd, h =>
    have h : some 2 = some kd := h
    cases h
    exact Or.inr ⟨_, rfl⟩
  | 1, kd, h =>
    have h : some 0 = some kd := h
    cases h
    exact rfl
  | 2, kd, h =>
    have h : some 0 = some kd := h
    cases h
    exact rfl
  | 3, kd, h =>
    have h : some 0 = some kd := h
    cases h
    exact rfl
  | 4, kd, h =>
    have h : some 0 = some kd := h
    cases h
    exact rfl
  | 5, kd, h =>
    have h : some 0 = some kd := h
    cases h
    exact rfl
  | 6, kd, h =>
    have h : some 0 = some kd := h
    cases h
    exact rfl
  | 7, kd, h =>
    have h : some 0 = some kd := h
    cases h
    exact rfl
  | 8, kd, h =>
    have h : some 0 = some kd := h
    cases h
    exact rfl
  | n + 9, kd, h =>
    have h1 : (g_F 5)[n + 9]? = none := by
      apply List.getElem?_eq_none
      show 9 ≤ n + 9
      omega
    rw [h1] at h
    cases h
theorem cf_5 (f : Nat) (hf : f < 9) : gFd g_Cl g_F g_good 5 f cn_5 ct_5 9 cy_5 := ⟨rfl, by decide, hf, ch_5, ck_5, cm_5, cd_5 f hf, fun kd h => cob_5.2 f kd h⟩
theorem ch_6 : ∀ w ∈ u_ws cn_6 ct_6 7, w ∈ g_good := by
  show ∀ w ∈ [Jvm.Cond.laysFinal "LayeredDrawing" "LayeredDrawing" "graph" "LLayeredDrawing$Graph;", Jvm.Cond.laysFinal "LayeredDrawing" "LayeredDrawing" "layering" "LLayeredDrawing$Layering;", Jvm.Cond.laysFinal "LayeredDrawing" "LayeredDrawing" "order" "LLayeredDrawing$Order;", Jvm.Cond.laysFinal "LayeredDrawing" "LayeredDrawing" "coordinates" "LLayeredDrawing$Coordinates;", Jvm.Cond.laysFinal "LayeredDrawing" "LayeredDrawing" "text" "LLayeredDrawing$Text;", Jvm.Cond.laysFinal "LayeredDrawing" "LayeredDrawing" "slots" "[LLayeredDrawing$Slot;", Jvm.Cond.lays "LayeredDrawing" "LayeredDrawing" "laidOut" "Z"], w ∈ g_good
  exact List.forall_mem_cons.mpr ⟨(in_good pl_c 55 rfl), List.forall_mem_cons.mpr ⟨(in_good pl_c 56 rfl), List.forall_mem_cons.mpr ⟨(in_good pl_c 57 rfl), List.forall_mem_cons.mpr ⟨(in_good pl_c 58 rfl), List.forall_mem_cons.mpr ⟨(in_good pl_c 59 rfl), List.forall_mem_cons.mpr ⟨(in_good pl_c 60 rfl), List.forall_mem_cons.mpr ⟨(in_good pl_c 61 rfl), fun _ h => absurd h List.not_mem_nil⟩⟩⟩⟩⟩⟩⟩
theorem ck_6 : ∀ k, k < 7 → parseFieldDescriptor (ct_6 k).2.2.1 = some (cy_6 k) := by decide +kernel
theorem cm_6 : ∀ a, a < 7 → ∀ b, b < 7 → a ≠ b → (ct_6 a).2.1 ≠ (ct_6 b).2.1 := by decide +kernel
theorem cd_6 : ∀ k, k < 7 → (ct_6 k).1 = cn_6 := by decide +kernel
theorem cob_6 : gOb g_F 6 7 cy_6 := by
  refine ⟨rfl, fun k kd h => ?_⟩
  match k, kd, h with
  | 0, kd, h =>
    have h : some 2 = some kd := h
    cases h
    exact Or.inl ⟨_, rfl⟩
  | 1, kd, h =>
    have h : some 2 = some kd := h
    cases h
    exact Or.inl ⟨_, rfl⟩
  | 2, kd, h =>
    have h : some 2 = some kd := h
    cases h
    exact Or.inl ⟨_, rfl⟩
  | 3, kd, h =>
    have h : some 2 = some kd := h
    cases h
    exact Or.inl ⟨_, rfl⟩
  | 4, kd, h =>
    have h : some 2 = some kd := h
    cases h
    exact Or.inl ⟨_, rfl⟩
  | 5, kd, h =>
    have h : some 2 = some kd := h
    cases h
    exact Or.inr ⟨_, rfl⟩
  | 6, kd, h =>
    have h : some 1 = some kd := h
    cases h
    exact rfl
  | n + 7, kd, h =>
    have h1 : (g_F 6)[n + 7]? = none := by
      apply List.getElem?_eq_none
      show 7 ≤ n + 7
      omega
    rw [h1] at h
    cases h
theorem cf_6 (f : Nat) (hf : f < 7) : gFd g_Cl g_F g_good 6 f cn_6 ct_6 7 cy_6 := ⟨rfl, by decide, hf, ch_6, ck_6, cm_6, cd_6 f hf, fun kd h => cob_6.2 f kd h⟩
def PL_m0 : List (Nat × Jvm.Cond) := [(38, (Jvm.Cond.initialized "LayeredDrawing$Coordinates")),
  (228, (Jvm.Cond.instanceMethod ({ cls := "LayeredDrawing$Coordinates", name := "<init>", desc := "(LLayeredDrawing$Graph;LLayeredDrawing$Layering;LLayeredDrawing$Order;)V" } : Jvm.MethodName))),
  (464, (Jvm.Cond.instanceMethod ({ cls := "LayeredDrawing$Coordinates", name := "pack", desc := "()V" } : Jvm.MethodName))),
  (465, (Jvm.Cond.selects "LayeredDrawing$Coordinates" ({ cls := "LayeredDrawing$Coordinates", name := "pack", desc := "()V" } : Jvm.MethodName) ({ cls := "LayeredDrawing$Coordinates", name := "pack", desc := "()V" } : Jvm.MethodName))),
  (581, (Jvm.Cond.instanceMethod ({ cls := "LayeredDrawing$Coordinates", name := "alignLayers", desc := "()V" } : Jvm.MethodName))),
  (582, (Jvm.Cond.selects "LayeredDrawing$Coordinates" ({ cls := "LayeredDrawing$Coordinates", name := "alignLayers", desc := "()V" } : Jvm.MethodName) ({ cls := "LayeredDrawing$Coordinates", name := "alignLayers", desc := "()V" } : Jvm.MethodName))),
  (587, (Jvm.Cond.instanceMethod ({ cls := "LayeredDrawing$Coordinates", name := "desiredLeft", desc := "(II)I" } : Jvm.MethodName))),
  (21, (Jvm.Cond.selects "LayeredDrawing$Coordinates" ({ cls := "LayeredDrawing$Coordinates", name := "desiredLeft", desc := "(II)I" } : Jvm.MethodName) ({ cls := "LayeredDrawing$Coordinates", name := "desiredLeft", desc := "(II)I" } : Jvm.MethodName))),
  (593, (Jvm.Cond.instanceMethod ({ cls := "LayeredDrawing$Coordinates", name := "putSorted", desc := "(II)V" } : Jvm.MethodName))),
  (22, (Jvm.Cond.selects "LayeredDrawing$Coordinates" ({ cls := "LayeredDrawing$Coordinates", name := "putSorted", desc := "(II)V" } : Jvm.MethodName) ({ cls := "LayeredDrawing$Coordinates", name := "putSorted", desc := "(II)V" } : Jvm.MethodName))),
  (602, (Jvm.Cond.instanceMethod ({ cls := "LayeredDrawing$Coordinates", name := "rightOf", desc := "(I)I" } : Jvm.MethodName))),
  (603, (Jvm.Cond.selects "LayeredDrawing$Coordinates" ({ cls := "LayeredDrawing$Coordinates", name := "rightOf", desc := "(I)I" } : Jvm.MethodName) ({ cls := "LayeredDrawing$Coordinates", name := "rightOf", desc := "(I)I" } : Jvm.MethodName))),
  (598, (Jvm.Cond.instanceMethod ({ cls := "LayeredDrawing$Coordinates", name := "greatestRight", desc := "()I" } : Jvm.MethodName))),
  (599, (Jvm.Cond.selects "LayeredDrawing$Coordinates" ({ cls := "LayeredDrawing$Coordinates", name := "greatestRight", desc := "()I" } : Jvm.MethodName) ({ cls := "LayeredDrawing$Coordinates", name := "greatestRight", desc := "()I" } : Jvm.MethodName))),
  (645, (Jvm.Cond.instanceMethod ({ cls := "LayeredDrawing$Coordinates", name := "shift", desc := "(II)I" } : Jvm.MethodName))),
  (25, (Jvm.Cond.selects "LayeredDrawing$Coordinates" ({ cls := "LayeredDrawing$Coordinates", name := "shift", desc := "(II)I" } : Jvm.MethodName) ({ cls := "LayeredDrawing$Coordinates", name := "shift", desc := "(II)I" } : Jvm.MethodName))),
  (640, (Jvm.Cond.instanceMethod ({ cls := "LayeredDrawing$Coordinates", name := "sumOfShifts", desc := "()I" } : Jvm.MethodName))),
  (641, (Jvm.Cond.selects "LayeredDrawing$Coordinates" ({ cls := "LayeredDrawing$Coordinates", name := "sumOfShifts", desc := "()I" } : Jvm.MethodName) ({ cls := "LayeredDrawing$Coordinates", name := "sumOfShifts", desc := "()I" } : Jvm.MethodName))),
  (764, (Jvm.Cond.instanceMethod ({ cls := "LayeredDrawing$Coordinates", name := "straightParts", desc := "(I)I" } : Jvm.MethodName))),
  (765, (Jvm.Cond.selects "LayeredDrawing$Coordinates" ({ cls := "LayeredDrawing$Coordinates", name := "straightParts", desc := "(I)I" } : Jvm.MethodName) ({ cls := "LayeredDrawing$Coordinates", name := "straightParts", desc := "(I)I" } : Jvm.MethodName))),
  (787, (Jvm.Cond.instanceMethod ({ cls := "LayeredDrawing$Coordinates", name := "sideOf", desc := "(II)I" } : Jvm.MethodName))),
  (788, (Jvm.Cond.selects "LayeredDrawing$Coordinates" ({ cls := "LayeredDrawing$Coordinates", name := "sideOf", desc := "(II)I" } : Jvm.MethodName) ({ cls := "LayeredDrawing$Coordinates", name := "sideOf", desc := "(II)I" } : Jvm.MethodName))),
  (792, (Jvm.Cond.instanceMethod ({ cls := "LayeredDrawing$Coordinates", name := "sideOfNode", desc := "(II)I" } : Jvm.MethodName))),
  (28, (Jvm.Cond.selects "LayeredDrawing$Coordinates" ({ cls := "LayeredDrawing$Coordinates", name := "sideOfNode", desc := "(II)I" } : Jvm.MethodName) ({ cls := "LayeredDrawing$Coordinates", name := "sideOfNode", desc := "(II)I" } : Jvm.MethodName))),
  (799, (Jvm.Cond.instanceMethod ({ cls := "LayeredDrawing$Coordinates", name := "countIntruders", desc := "(I)I" } : Jvm.MethodName))),
  (800, (Jvm.Cond.selects "LayeredDrawing$Coordinates" ({ cls := "LayeredDrawing$Coordinates", name := "countIntruders", desc := "(I)I" } : Jvm.MethodName) ({ cls := "LayeredDrawing$Coordinates", name := "countIntruders", desc := "(I)I" } : Jvm.MethodName))),
  (35, (Jvm.Cond.initialized "LayeredDrawing$Graph")),
  (55, (Jvm.Cond.instanceMethod ({ cls := "LayeredDrawing$Graph", name := "<init>", desc := "()V" } : Jvm.MethodName))),
  (663, (Jvm.Cond.instanceMethod ({ cls := "LayeredDrawing$Graph", name := "putNode", desc := "(II)I" } : Jvm.MethodName))),
  (664, (Jvm.Cond.selects "LayeredDrawing$Graph" ({ cls := "LayeredDrawing$Graph", name := "putNode", desc := "(II)I" } : Jvm.MethodName) ({ cls := "LayeredDrawing$Graph", name := "putNode", desc := "(II)I" } : Jvm.MethodName))),
  (674, (Jvm.Cond.instanceMethod ({ cls := "LayeredDrawing$Graph", name := "putEdge", desc := "(IIIII)I" } : Jvm.MethodName))),
  (675, (Jvm.Cond.selects "LayeredDrawing$Graph" ({ cls := "LayeredDrawing$Graph", name := "putEdge", desc := "(IIIII)I" } : Jvm.MethodName) ({ cls := "LayeredDrawing$Graph", name := "putEdge", desc := "(IIIII)I" } : Jvm.MethodName)))]
theorem pl_m0 : PL_m0.all (fun q => decide (lw_tbl[q.1]? = some q.2) && goodWord q.2) = true := by decide +kernel
theorem mf_0 : Jvm.Cond.instanceMethod (g_Y 0) ∈ g_good ∧ (g_Y 0).name = "<init>" ∧ g_R 0 = none ∧ Jvm.Cond.initialized (g_Y 0).cls ∈ g_good ∧ Jvm.Cond.code (g_Y 0) (g_B 0) (g_T 0).2.2.1 (g_R 0) ∈ g_good ∧ ((g_Y 0).cls ≠ "java/lang/invoke/MethodHandle" ∧ (g_Y 0).cls ≠ "java/lang/invoke/VarHandle") ∧ (parseMethodDescriptor (g_Y 0).desc).map (fun d => d.parameters.length) = some 3 := ⟨(in_good pl_m0 1 rfl), rfl, rfl, (in_good pl_m0 0 rfl), (in_goodc (List.mem_append_left _ (List.mem_of_getElem? (i := 196) rfl)) rfl), ⟨by decide, by decide⟩, by decide +kernel⟩
theorem mf_1 : Jvm.Cond.instanceMethod (g_Y 1) ∈ g_good ∧ Jvm.Cond.selects (g_Y 1).cls (g_Y 1) (g_Y 1) ∈ g_good ∧ Jvm.Cond.initialized (g_Y 1).cls ∈ g_good ∧ Jvm.Cond.code (g_Y 1) (g_B 1) (g_T 1).2.2.1 (g_R 1) ∈ g_good ∧ ((g_Y 1).cls ≠ "java/lang/invoke/MethodHandle" ∧ (g_Y 1).cls ≠ "java/lang/invoke/VarHandle") ∧ (parseMethodDescriptor (g_Y 1).desc).map (fun d => d.parameters.length) = some 0 ∧ (g_T 1).1 < 100 ∧ ∃ (Tf : u_T) (N : Nat), g_Cl[(g_T 1).1]? = some ((g_Y 1).cls, Tf, N) := ⟨(in_good pl_m0 2 rfl), (in_good pl_m0 3 rfl), (in_good pl_m0 0 rfl), (in_goodc (List.mem_append_right _ (List.mem_append_left _ (List.mem_of_getElem? (i := 193) rfl))) rfl), ⟨by decide, by decide⟩, by decide +kernel, by decide +kernel, ct_0, 5, rfl⟩
theorem mf_2 : Jvm.Cond.instanceMethod (g_Y 2) ∈ g_good ∧ Jvm.Cond.selects (g_Y 2).cls (g_Y 2) (g_Y 2) ∈ g_good ∧ Jvm.Cond.initialized (g_Y 2).cls ∈ g_good ∧ Jvm.Cond.code (g_Y 2) (g_B 2) (g_T 2).2.2.1 (g_R 2) ∈ g_good ∧ ((g_Y 2).cls ≠ "java/lang/invoke/MethodHandle" ∧ (g_Y 2).cls ≠ "java/lang/invoke/VarHandle") ∧ (parseMethodDescriptor (g_Y 2).desc).map (fun d => d.parameters.length) = some 0 ∧ (g_T 2).1 < 100 ∧ ∃ (Tf : u_T) (N : Nat), g_Cl[(g_T 2).1]? = some ((g_Y 2).cls, Tf, N) := ⟨(in_good pl_m0 4 rfl), (in_good pl_m0 5 rfl), (in_good pl_m0 0 rfl), (in_goodc (List.mem_append_right _ (List.mem_append_right _ (List.mem_append_left _ (List.mem_of_getElem? (i := 70) rfl)))) rfl), ⟨by decide, by decide⟩, by decide +kernel, by decide +kernel, ct_0, 5, rfl⟩
theorem mf_3 : Jvm.Cond.instanceMethod (g_Y 3) ∈ g_good ∧ Jvm.Cond.selects (g_Y 3).cls (g_Y 3) (g_Y 3) ∈ g_good ∧ Jvm.Cond.initialized (g_Y 3).cls ∈ g_good ∧ Jvm.Cond.code (g_Y 3) (g_B 3) (g_T 3).2.2.1 (g_R 3) ∈ g_good ∧ ((g_Y 3).cls ≠ "java/lang/invoke/MethodHandle" ∧ (g_Y 3).cls ≠ "java/lang/invoke/VarHandle") ∧ (parseMethodDescriptor (g_Y 3).desc).map (fun d => d.parameters.length) = some 2 ∧ (g_T 3).1 < 100 ∧ ∃ (Tf : u_T) (N : Nat), g_Cl[(g_T 3).1]? = some ((g_Y 3).cls, Tf, N) := ⟨(in_good pl_m0 6 rfl), (in_good pl_m0 7 rfl), (in_good pl_m0 0 rfl), (in_goodc (List.mem_append_right _ (List.mem_append_right _ (List.mem_append_left _ (List.mem_of_getElem? (i := 75) rfl)))) rfl), ⟨by decide, by decide⟩, by decide +kernel, by decide +kernel, ct_0, 5, rfl⟩
theorem mf_4 : Jvm.Cond.instanceMethod (g_Y 4) ∈ g_good ∧ Jvm.Cond.selects (g_Y 4).cls (g_Y 4) (g_Y 4) ∈ g_good ∧ Jvm.Cond.initialized (g_Y 4).cls ∈ g_good ∧ Jvm.Cond.code (g_Y 4) (g_B 4) (g_T 4).2.2.1 (g_R 4) ∈ g_good ∧ ((g_Y 4).cls ≠ "java/lang/invoke/MethodHandle" ∧ (g_Y 4).cls ≠ "java/lang/invoke/VarHandle") ∧ (parseMethodDescriptor (g_Y 4).desc).map (fun d => d.parameters.length) = some 2 ∧ (g_T 4).1 < 100 ∧ ∃ (Tf : u_T) (N : Nat), g_Cl[(g_T 4).1]? = some ((g_Y 4).cls, Tf, N) := ⟨(in_good pl_m0 8 rfl), (in_good pl_m0 9 rfl), (in_good pl_m0 0 rfl), (in_goodc (List.mem_append_right _ (List.mem_append_right _ (List.mem_append_left _ (List.mem_of_getElem? (i := 81) rfl)))) rfl), ⟨by decide, by decide⟩, by decide +kernel, by decide +kernel, ct_0, 5, rfl⟩
theorem mf_5 : Jvm.Cond.instanceMethod (g_Y 5) ∈ g_good ∧ Jvm.Cond.selects (g_Y 5).cls (g_Y 5) (g_Y 5) ∈ g_good ∧ Jvm.Cond.initialized (g_Y 5).cls ∈ g_good ∧ Jvm.Cond.code (g_Y 5) (g_B 5) (g_T 5).2.2.1 (g_R 5) ∈ g_good ∧ ((g_Y 5).cls ≠ "java/lang/invoke/MethodHandle" ∧ (g_Y 5).cls ≠ "java/lang/invoke/VarHandle") ∧ (parseMethodDescriptor (g_Y 5).desc).map (fun d => d.parameters.length) = some 1 ∧ (g_T 5).1 < 100 ∧ ∃ (Tf : u_T) (N : Nat), g_Cl[(g_T 5).1]? = some ((g_Y 5).cls, Tf, N) := ⟨(in_good pl_m0 10 rfl), (in_good pl_m0 11 rfl), (in_good pl_m0 0 rfl), (in_goodc (List.mem_append_right _ (List.mem_append_right _ (List.mem_append_left _ (List.mem_of_getElem? (i := 91) rfl)))) rfl), ⟨by decide, by decide⟩, by decide +kernel, by decide +kernel, ct_0, 5, rfl⟩
theorem mf_6 : Jvm.Cond.instanceMethod (g_Y 6) ∈ g_good ∧ Jvm.Cond.selects (g_Y 6).cls (g_Y 6) (g_Y 6) ∈ g_good ∧ Jvm.Cond.initialized (g_Y 6).cls ∈ g_good ∧ Jvm.Cond.code (g_Y 6) (g_B 6) (g_T 6).2.2.1 (g_R 6) ∈ g_good ∧ ((g_Y 6).cls ≠ "java/lang/invoke/MethodHandle" ∧ (g_Y 6).cls ≠ "java/lang/invoke/VarHandle") ∧ (parseMethodDescriptor (g_Y 6).desc).map (fun d => d.parameters.length) = some 0 ∧ (g_T 6).1 < 100 ∧ ∃ (Tf : u_T) (N : Nat), g_Cl[(g_T 6).1]? = some ((g_Y 6).cls, Tf, N) := ⟨(in_good pl_m0 12 rfl), (in_good pl_m0 13 rfl), (in_good pl_m0 0 rfl), (in_goodc (List.mem_append_right _ (List.mem_append_right _ (List.mem_append_left _ (List.mem_of_getElem? (i := 87) rfl)))) rfl), ⟨by decide, by decide⟩, by decide +kernel, by decide +kernel, ct_0, 5, rfl⟩
theorem mf_7 : Jvm.Cond.instanceMethod (g_Y 7) ∈ g_good ∧ Jvm.Cond.selects (g_Y 7).cls (g_Y 7) (g_Y 7) ∈ g_good ∧ Jvm.Cond.initialized (g_Y 7).cls ∈ g_good ∧ Jvm.Cond.code (g_Y 7) (g_B 7) (g_T 7).2.2.1 (g_R 7) ∈ g_good ∧ ((g_Y 7).cls ≠ "java/lang/invoke/MethodHandle" ∧ (g_Y 7).cls ≠ "java/lang/invoke/VarHandle") ∧ (parseMethodDescriptor (g_Y 7).desc).map (fun d => d.parameters.length) = some 2 ∧ (g_T 7).1 < 100 ∧ ∃ (Tf : u_T) (N : Nat), g_Cl[(g_T 7).1]? = some ((g_Y 7).cls, Tf, N) := ⟨(in_good pl_m0 14 rfl), (in_good pl_m0 15 rfl), (in_good pl_m0 0 rfl), (in_goodc (List.mem_append_right _ (List.mem_append_right _ (List.mem_append_left _ (List.mem_of_getElem? (i := 133) rfl)))) rfl), ⟨by decide, by decide⟩, by decide +kernel, by decide +kernel, ct_0, 5, rfl⟩
theorem mf_8 : Jvm.Cond.instanceMethod (g_Y 8) ∈ g_good ∧ Jvm.Cond.selects (g_Y 8).cls (g_Y 8) (g_Y 8) ∈ g_good ∧ Jvm.Cond.initialized (g_Y 8).cls ∈ g_good ∧ Jvm.Cond.code (g_Y 8) (g_B 8) (g_T 8).2.2.1 (g_R 8) ∈ g_good ∧ ((g_Y 8).cls ≠ "java/lang/invoke/MethodHandle" ∧ (g_Y 8).cls ≠ "java/lang/invoke/VarHandle") ∧ (parseMethodDescriptor (g_Y 8).desc).map (fun d => d.parameters.length) = some 0 ∧ (g_T 8).1 < 100 ∧ ∃ (Tf : u_T) (N : Nat), g_Cl[(g_T 8).1]? = some ((g_Y 8).cls, Tf, N) := ⟨(in_good pl_m0 16 rfl), (in_good pl_m0 17 rfl), (in_good pl_m0 0 rfl), (in_goodc (List.mem_append_right _ (List.mem_append_right _ (List.mem_append_left _ (List.mem_of_getElem? (i := 129) rfl)))) rfl), ⟨by decide, by decide⟩, by decide +kernel, by decide +kernel, ct_0, 5, rfl⟩
theorem mf_9 : Jvm.Cond.instanceMethod (g_Y 9) ∈ g_good ∧ Jvm.Cond.selects (g_Y 9).cls (g_Y 9) (g_Y 9) ∈ g_good ∧ Jvm.Cond.initialized (g_Y 9).cls ∈ g_good ∧ Jvm.Cond.code (g_Y 9) (g_B 9) (g_T 9).2.2.1 (g_R 9) ∈ g_good ∧ ((g_Y 9).cls ≠ "java/lang/invoke/MethodHandle" ∧ (g_Y 9).cls ≠ "java/lang/invoke/VarHandle") ∧ (parseMethodDescriptor (g_Y 9).desc).map (fun d => d.parameters.length) = some 1 ∧ (g_T 9).1 < 100 ∧ ∃ (Tf : u_T) (N : Nat), g_Cl[(g_T 9).1]? = some ((g_Y 9).cls, Tf, N) := ⟨(in_good pl_m0 18 rfl), (in_good pl_m0 19 rfl), (in_good pl_m0 0 rfl), (in_goodc (List.mem_append_right _ (List.mem_append_right _ (List.mem_append_right _ (List.mem_of_getElem? (i := 13) rfl)))) rfl), ⟨by decide, by decide⟩, by decide +kernel, by decide +kernel, ct_0, 5, rfl⟩
theorem mf_10 : Jvm.Cond.instanceMethod (g_Y 10) ∈ g_good ∧ Jvm.Cond.selects (g_Y 10).cls (g_Y 10) (g_Y 10) ∈ g_good ∧ Jvm.Cond.initialized (g_Y 10).cls ∈ g_good ∧ Jvm.Cond.code (g_Y 10) (g_B 10) (g_T 10).2.2.1 (g_R 10) ∈ g_good ∧ ((g_Y 10).cls ≠ "java/lang/invoke/MethodHandle" ∧ (g_Y 10).cls ≠ "java/lang/invoke/VarHandle") ∧ (parseMethodDescriptor (g_Y 10).desc).map (fun d => d.parameters.length) = some 2 ∧ (g_T 10).1 < 100 ∧ ∃ (Tf : u_T) (N : Nat), g_Cl[(g_T 10).1]? = some ((g_Y 10).cls, Tf, N) := ⟨(in_good pl_m0 20 rfl), (in_good pl_m0 21 rfl), (in_good pl_m0 0 rfl), (in_goodc (List.mem_append_right _ (List.mem_append_right _ (List.mem_append_right _ (List.mem_of_getElem? (i := 36) rfl)))) rfl), ⟨by decide, by decide⟩, by decide +kernel, by decide +kernel, ct_0, 5, rfl⟩
theorem mf_11 : Jvm.Cond.instanceMethod (g_Y 11) ∈ g_good ∧ Jvm.Cond.selects (g_Y 11).cls (g_Y 11) (g_Y 11) ∈ g_good ∧ Jvm.Cond.initialized (g_Y 11).cls ∈ g_good ∧ Jvm.Cond.code (g_Y 11) (g_B 11) (g_T 11).2.2.1 (g_R 11) ∈ g_good ∧ ((g_Y 11).cls ≠ "java/lang/invoke/MethodHandle" ∧ (g_Y 11).cls ≠ "java/lang/invoke/VarHandle") ∧ (parseMethodDescriptor (g_Y 11).desc).map (fun d => d.parameters.length) = some 2 ∧ (g_T 11).1 < 100 ∧ ∃ (Tf : u_T) (N : Nat), g_Cl[(g_T 11).1]? = some ((g_Y 11).cls, Tf, N) := ⟨(in_good pl_m0 22 rfl), (in_good pl_m0 23 rfl), (in_good pl_m0 0 rfl), (in_goodc (List.mem_append_right _ (List.mem_append_right _ (List.mem_append_right _ (List.mem_of_getElem? (i := 40) rfl)))) rfl), ⟨by decide, by decide⟩, by decide +kernel, by decide +kernel, ct_0, 5, rfl⟩
theorem mf_12 : Jvm.Cond.instanceMethod (g_Y 12) ∈ g_good ∧ Jvm.Cond.selects (g_Y 12).cls (g_Y 12) (g_Y 12) ∈ g_good ∧ Jvm.Cond.initialized (g_Y 12).cls ∈ g_good ∧ Jvm.Cond.code (g_Y 12) (g_B 12) (g_T 12).2.2.1 (g_R 12) ∈ g_good ∧ ((g_Y 12).cls ≠ "java/lang/invoke/MethodHandle" ∧ (g_Y 12).cls ≠ "java/lang/invoke/VarHandle") ∧ (parseMethodDescriptor (g_Y 12).desc).map (fun d => d.parameters.length) = some 1 ∧ (g_T 12).1 < 100 ∧ ∃ (Tf : u_T) (N : Nat), g_Cl[(g_T 12).1]? = some ((g_Y 12).cls, Tf, N) := ⟨(in_good pl_m0 24 rfl), (in_good pl_m0 25 rfl), (in_good pl_m0 0 rfl), (in_goodc (List.mem_append_right _ (List.mem_append_right _ (List.mem_append_right _ (List.mem_of_getElem? (i := 48) rfl)))) rfl), ⟨by decide, by decide⟩, by decide +kernel, by decide +kernel, ct_0, 5, rfl⟩
theorem mf_13 : Jvm.Cond.instanceMethod (g_Y 13) ∈ g_good ∧ (g_Y 13).name = "<init>" ∧ g_R 13 = none ∧ Jvm.Cond.initialized (g_Y 13).cls ∈ g_good ∧ Jvm.Cond.code (g_Y 13) (g_B 13) (g_T 13).2.2.1 (g_R 13) ∈ g_good ∧ ((g_Y 13).cls ≠ "java/lang/invoke/MethodHandle" ∧ (g_Y 13).cls ≠ "java/lang/invoke/VarHandle") ∧ (parseMethodDescriptor (g_Y 13).desc).map (fun d => d.parameters.length) = some 0 := ⟨(in_good pl_m0 27 rfl), rfl, rfl, (in_good pl_m0 26 rfl), (in_goodc (List.mem_append_left _ (List.mem_of_getElem? (i := 23) rfl)) rfl), ⟨by decide, by decide⟩, by decide +kernel⟩
theorem mf_15 : Jvm.Cond.instanceMethod (g_Y 15) ∈ g_good ∧ Jvm.Cond.selects (g_Y 15).cls (g_Y 15) (g_Y 15) ∈ g_good ∧ Jvm.Cond.initialized (g_Y 15).cls ∈ g_good ∧ Jvm.Cond.code (g_Y 15) (g_B 15) (g_T 15).2.2.1 (g_R 15) ∈ g_good ∧ ((g_Y 15).cls ≠ "java/lang/invoke/MethodHandle" ∧ (g_Y 15).cls ≠ "java/lang/invoke/VarHandle") ∧ (parseMethodDescriptor (g_Y 15).desc).map (fun d => d.parameters.length) = some 2 ∧ (g_T 15).1 < 100 ∧ ∃ (Tf : u_T) (N : Nat), g_Cl[(g_T 15).1]? = some ((g_Y 15).cls, Tf, N) := ⟨(in_good pl_m0 28 rfl), (in_good pl_m0 29 rfl), (in_good pl_m0 26 rfl), (in_goodc (List.mem_append_right _ (List.mem_append_right _ (List.mem_append_left _ (List.mem_of_getElem? (i := 152) rfl)))) rfl), ⟨by decide, by decide⟩, by decide +kernel, by decide +kernel, ct_1, 9, rfl⟩
theorem mf_16 : Jvm.Cond.instanceMethod (g_Y 16) ∈ g_good ∧ Jvm.Cond.selects (g_Y 16).cls (g_Y 16) (g_Y 16) ∈ g_good ∧ Jvm.Cond.initialized (g_Y 16).cls ∈ g_good ∧ Jvm.Cond.code (g_Y 16) (g_B 16) (g_T 16).2.2.1 (g_R 16) ∈ g_good ∧ ((g_Y 16).cls ≠ "java/lang/invoke/MethodHandle" ∧ (g_Y 16).cls ≠ "java/lang/invoke/VarHandle") ∧ (parseMethodDescriptor (g_Y 16).desc).map (fun d => d.parameters.length) = some 5 ∧ (g_T 16).1 < 100 ∧ ∃ (Tf : u_T) (N : Nat), g_Cl[(g_T 16).1]? = some ((g_Y 16).cls, Tf, N) := ⟨(in_good pl_m0 30 rfl), (in_good pl_m0 31 rfl), (in_good pl_m0 26 rfl), (in_goodc (List.mem_append_right _ (List.mem_append_right _ (List.mem_append_left _ (List.mem_of_getElem? (i := 163) rfl)))) rfl), ⟨by decide, by decide⟩, by decide +kernel, by decide +kernel, ct_1, 9, rfl⟩
def PL_m16 : List (Nat × Jvm.Cond) := [(35, (Jvm.Cond.initialized "LayeredDrawing$Graph")),
  (783, (Jvm.Cond.instanceMethod ({ cls := "LayeredDrawing$Graph", name := "hasGroup", desc := "(I)Z" } : Jvm.MethodName))),
  (784, (Jvm.Cond.selects "LayeredDrawing$Graph" ({ cls := "LayeredDrawing$Graph", name := "hasGroup", desc := "(I)Z" } : Jvm.MethodName) ({ cls := "LayeredDrawing$Graph", name := "hasGroup", desc := "(I)Z" } : Jvm.MethodName))),
  (618, (Jvm.Cond.instanceMethod ({ cls := "LayeredDrawing$Graph", name := "copyFrom", desc := "(LLayeredDrawing$Graph;)V" } : Jvm.MethodName))),
  (619, (Jvm.Cond.selects "LayeredDrawing$Graph" ({ cls := "LayeredDrawing$Graph", name := "copyFrom", desc := "(LLayeredDrawing$Graph;)V" } : Jvm.MethodName) ({ cls := "LayeredDrawing$Graph", name := "copyFrom", desc := "(LLayeredDrawing$Graph;)V" } : Jvm.MethodName))),
  (36, (Jvm.Cond.initialized "LayeredDrawing$Layering")),
  (112, (Jvm.Cond.instanceMethod ({ cls := "LayeredDrawing$Layering", name := "<init>", desc := "(LLayeredDrawing$Graph;)V" } : Jvm.MethodName))),
  (352, (Jvm.Cond.instanceMethod ({ cls := "LayeredDrawing$Layering", name := "compute", desc := "()V" } : Jvm.MethodName))),
  (353, (Jvm.Cond.selects "LayeredDrawing$Layering" ({ cls := "LayeredDrawing$Layering", name := "compute", desc := "()V" } : Jvm.MethodName) ({ cls := "LayeredDrawing$Layering", name := "compute", desc := "()V" } : Jvm.MethodName))),
  (425, (Jvm.Cond.instanceMethod ({ cls := "LayeredDrawing$Layering", name := "span", desc := "(I)I" } : Jvm.MethodName))),
  (426, (Jvm.Cond.selects "LayeredDrawing$Layering" ({ cls := "LayeredDrawing$Layering", name := "span", desc := "(I)I" } : Jvm.MethodName) ({ cls := "LayeredDrawing$Layering", name := "span", desc := "(I)I" } : Jvm.MethodName))),
  (421, (Jvm.Cond.instanceMethod ({ cls := "LayeredDrawing$Layering", name := "spanOfAll", desc := "()I" } : Jvm.MethodName))),
  (422, (Jvm.Cond.selects "LayeredDrawing$Layering" ({ cls := "LayeredDrawing$Layering", name := "spanOfAll", desc := "()I" } : Jvm.MethodName) ({ cls := "LayeredDrawing$Layering", name := "spanOfAll", desc := "()I" } : Jvm.MethodName))),
  (492, (Jvm.Cond.instanceMethod ({ cls := "LayeredDrawing$Layering", name := "upperPort", desc := "(I)I" } : Jvm.MethodName))),
  (493, (Jvm.Cond.selects "LayeredDrawing$Layering" ({ cls := "LayeredDrawing$Layering", name := "upperPort", desc := "(I)I" } : Jvm.MethodName) ({ cls := "LayeredDrawing$Layering", name := "upperPort", desc := "(I)I" } : Jvm.MethodName))),
  (496, (Jvm.Cond.instanceMethod ({ cls := "LayeredDrawing$Layering", name := "lowerPort", desc := "(I)I" } : Jvm.MethodName))),
  (497, (Jvm.Cond.selects "LayeredDrawing$Layering" ({ cls := "LayeredDrawing$Layering", name := "lowerPort", desc := "(I)I" } : Jvm.MethodName) ({ cls := "LayeredDrawing$Layering", name := "lowerPort", desc := "(I)I" } : Jvm.MethodName))),
  (357, (Jvm.Cond.instanceMethod ({ cls := "LayeredDrawing$Layering", name := "findDirections", desc := "()V" } : Jvm.MethodName))),
  (1, (Jvm.Cond.selects "LayeredDrawing$Layering" ({ cls := "LayeredDrawing$Layering", name := "findDirections", desc := "()V" } : Jvm.MethodName) ({ cls := "LayeredDrawing$Layering", name := "findDirections", desc := "()V" } : Jvm.MethodName))),
  (363, (Jvm.Cond.static ({ cls := "LayeredDrawing$Layering", name := "visitNode", desc := "(LLayeredDrawing$Layering;II)V" } : Jvm.MethodName))),
  (367, (Jvm.Cond.instanceMethod ({ cls := "LayeredDrawing$Layering", name := "findLayers", desc := "()V" } : Jvm.MethodName))),
  (2, (Jvm.Cond.selects "LayeredDrawing$Layering" ({ cls := "LayeredDrawing$Layering", name := "findLayers", desc := "()V" } : Jvm.MethodName) ({ cls := "LayeredDrawing$Layering", name := "findLayers", desc := "()V" } : Jvm.MethodName))),
  (371, (Jvm.Cond.instanceMethod ({ cls := "LayeredDrawing$Layering", name := "pushDown", desc := "()I" } : Jvm.MethodName))),
  (3, (Jvm.Cond.selects "LayeredDrawing$Layering" ({ cls := "LayeredDrawing$Layering", name := "pushDown", desc := "()I" } : Jvm.MethodName) ({ cls := "LayeredDrawing$Layering", name := "pushDown", desc := "()I" } : Jvm.MethodName))),
  (375, (Jvm.Cond.instanceMethod ({ cls := "LayeredDrawing$Layering", name := "pushOnce", desc := "()I" } : Jvm.MethodName))),
  (4, (Jvm.Cond.selects "LayeredDrawing$Layering" ({ cls := "LayeredDrawing$Layering", name := "pushOnce", desc := "()I" } : Jvm.MethodName) ({ cls := "LayeredDrawing$Layering", name := "pushOnce", desc := "()I" } : Jvm.MethodName))),
  (379, (Jvm.Cond.instanceMethod ({ cls := "LayeredDrawing$Layering", name := "betterFlow", desc := "(I)Z" } : Jvm.MethodName))),
  (5, (Jvm.Cond.selects "LayeredDrawing$Layering" ({ cls := "LayeredDrawing$Layering", name := "betterFlow", desc := "(I)Z" } : Jvm.MethodName) ({ cls := "LayeredDrawing$Layering", name := "betterFlow", desc := "(I)Z" } : Jvm.MethodName))),
  (383, (Jvm.Cond.instanceMethod ({ cls := "LayeredDrawing$Layering", name := "pusherOf", desc := "(I)I" } : Jvm.MethodName))),
  (6, (Jvm.Cond.selects "LayeredDrawing$Layering" ({ cls := "LayeredDrawing$Layering", name := "pusherOf", desc := "(I)I" } : Jvm.MethodName) ({ cls := "LayeredDrawing$Layering", name := "pusherOf", desc := "(I)I" } : Jvm.MethodName))),
  (387, (Jvm.Cond.instanceMethod ({ cls := "LayeredDrawing$Layering", name := "flowOfCycle", desc := "(I)I" } : Jvm.MethodName))),
  (7, (Jvm.Cond.selects "LayeredDrawing$Layering" ({ cls := "LayeredDrawing$Layering", name := "flowOfCycle", desc := "(I)I" } : Jvm.MethodName) ({ cls := "LayeredDrawing$Layering", name := "flowOfCycle", desc := "(I)I" } : Jvm.MethodName)))]
theorem pl_m16 : PL_m16.all (fun q => decide (lw_tbl[q.1]? = some q.2) && goodWord q.2) = true := by decide +kernel
theorem mf_17 : Jvm.Cond.instanceMethod (g_Y 17) ∈ g_good ∧ Jvm.Cond.selects (g_Y 17).cls (g_Y 17) (g_Y 17) ∈ g_good ∧ Jvm.Cond.initialized (g_Y 17).cls ∈ g_good ∧ Jvm.Cond.code (g_Y 17) (g_B 17) (g_T 17).2.2.1 (g_R 17) ∈ g_good ∧ ((g_Y 17).cls ≠ "java/lang/invoke/MethodHandle" ∧ (g_Y 17).cls ≠ "java/lang/invoke/VarHandle") ∧ (parseMethodDescriptor (g_Y 17).desc).map (fun d => d.parameters.length) = some 1 ∧ (g_T 17).1 < 100 ∧ ∃ (Tf : u_T) (N : Nat), g_Cl[(g_T 17).1]? = some ((g_Y 17).cls, Tf, N) := ⟨(in_good pl_m16 1 rfl), (in_good pl_m16 2 rfl), (in_good pl_m16 0 rfl), (in_goodc (List.mem_append_right _ (List.mem_append_right _ (List.mem_append_right _ (List.mem_of_getElem? (i := 32) rfl)))) rfl), ⟨by decide, by decide⟩, by decide +kernel, by decide +kernel, ct_1, 9, rfl⟩
theorem mf_18 : Jvm.Cond.instanceMethod (g_Y 18) ∈ g_good ∧ Jvm.Cond.selects (g_Y 18).cls (g_Y 18) (g_Y 18) ∈ g_good ∧ Jvm.Cond.initialized (g_Y 18).cls ∈ g_good ∧ Jvm.Cond.code (g_Y 18) (g_B 18) (g_T 18).2.2.1 (g_R 18) ∈ g_good ∧ ((g_Y 18).cls ≠ "java/lang/invoke/MethodHandle" ∧ (g_Y 18).cls ≠ "java/lang/invoke/VarHandle") ∧ (parseMethodDescriptor (g_Y 18).desc).map (fun d => d.parameters.length) = some 1 ∧ (g_T 18).1 < 100 ∧ ∃ (Tf : u_T) (N : Nat), g_Cl[(g_T 18).1]? = some ((g_Y 18).cls, Tf, N) := ⟨(in_good pl_m16 3 rfl), (in_good pl_m16 4 rfl), (in_good pl_m16 0 rfl), (in_goodc (List.mem_append_right _ (List.mem_append_right _ (List.mem_append_left _ (List.mem_of_getElem? (i := 107) rfl)))) rfl), ⟨by decide, by decide⟩, by decide +kernel, by decide +kernel, ct_1, 9, rfl⟩
theorem mf_19 : Jvm.Cond.instanceMethod (g_Y 19) ∈ g_good ∧ (g_Y 19).name = "<init>" ∧ g_R 19 = none ∧ Jvm.Cond.initialized (g_Y 19).cls ∈ g_good ∧ Jvm.Cond.code (g_Y 19) (g_B 19) (g_T 19).2.2.1 (g_R 19) ∈ g_good ∧ ((g_Y 19).cls ≠ "java/lang/invoke/MethodHandle" ∧ (g_Y 19).cls ≠ "java/lang/invoke/VarHandle") ∧ (parseMethodDescriptor (g_Y 19).desc).map (fun d => d.parameters.length) = some 1 := ⟨(in_good pl_m16 6 rfl), rfl, rfl, (in_good pl_m16 5 rfl), (in_goodc (List.mem_append_left _ (List.mem_of_getElem? (i := 80) rfl)) rfl), ⟨by decide, by decide⟩, by decide +kernel⟩
theorem mf_20 : Jvm.Cond.instanceMethod (g_Y 20) ∈ g_good ∧ Jvm.Cond.selects (g_Y 20).cls (g_Y 20) (g_Y 20) ∈ g_good ∧ Jvm.Cond.initialized (g_Y 20).cls ∈ g_good ∧ Jvm.Cond.code (g_Y 20) (g_B 20) (g_T 20).2.2.1 (g_R 20) ∈ g_good ∧ ((g_Y 20).cls ≠ "java/lang/invoke/MethodHandle" ∧ (g_Y 20).cls ≠ "java/lang/invoke/VarHandle") ∧ (parseMethodDescriptor (g_Y 20).desc).map (fun d => d.parameters.length) = some 0 ∧ (g_T 20).1 < 100 ∧ ∃ (Tf : u_T) (N : Nat), g_Cl[(g_T 20).1]? = some ((g_Y 20).cls, Tf, N) := ⟨(in_good pl_m16 7 rfl), (in_good pl_m16 8 rfl), (in_good pl_m16 5 rfl), (in_goodc (List.mem_append_right _ (List.mem_append_left _ (List.mem_of_getElem? (i := 81) rfl))) rfl), ⟨by decide, by decide⟩, by decide +kernel, by decide +kernel, ct_2, 11, rfl⟩
theorem mf_21 : Jvm.Cond.instanceMethod (g_Y 21) ∈ g_good ∧ Jvm.Cond.selects (g_Y 21).cls (g_Y 21) (g_Y 21) ∈ g_good ∧ Jvm.Cond.initialized (g_Y 21).cls ∈ g_good ∧ Jvm.Cond.code (g_Y 21) (g_B 21) (g_T 21).2.2.1 (g_R 21) ∈ g_good ∧ ((g_Y 21).cls ≠ "java/lang/invoke/MethodHandle" ∧ (g_Y 21).cls ≠ "java/lang/invoke/VarHandle") ∧ (parseMethodDescriptor (g_Y 21).desc).map (fun d => d.parameters.length) = some 1 ∧ (g_T 21).1 < 100 ∧ ∃ (Tf : u_T) (N : Nat), g_Cl[(g_T 21).1]? = some ((g_Y 21).cls, Tf, N) := ⟨(in_good pl_m16 9 rfl), (in_good pl_m16 10 rfl), (in_good pl_m16 5 rfl), (in_goodc (List.mem_append_right _ (List.mem_append_left _ (List.mem_of_getElem? (i := 154) rfl))) rfl), ⟨by decide, by decide⟩, by decide +kernel, by decide +kernel, ct_2, 11, rfl⟩
theorem mf_22 : Jvm.Cond.instanceMethod (g_Y 22) ∈ g_good ∧ Jvm.Cond.selects (g_Y 22).cls (g_Y 22) (g_Y 22) ∈ g_good ∧ Jvm.Cond.initialized (g_Y 22).cls ∈ g_good ∧ Jvm.Cond.code (g_Y 22) (g_B 22) (g_T 22).2.2.1 (g_R 22) ∈ g_good ∧ ((g_Y 22).cls ≠ "java/lang/invoke/MethodHandle" ∧ (g_Y 22).cls ≠ "java/lang/invoke/VarHandle") ∧ (parseMethodDescriptor (g_Y 22).desc).map (fun d => d.parameters.length) = some 0 ∧ (g_T 22).1 < 100 ∧ ∃ (Tf : u_T) (N : Nat), g_Cl[(g_T 22).1]? = some ((g_Y 22).cls, Tf, N) := ⟨(in_good pl_m16 11 rfl), (in_good pl_m16 12 rfl), (in_good pl_m16 5 rfl), (in_goodc (List.mem_append_right _ (List.mem_append_left _ (List.mem_of_getElem? (i := 150) rfl))) rfl), ⟨by decide, by decide⟩, by decide +kernel, by decide +kernel, ct_2, 11, rfl⟩
theorem mf_23 : Jvm.Cond.instanceMethod (g_Y 23) ∈ g_good ∧ Jvm.Cond.selects (g_Y 23).cls (g_Y 23) (g_Y 23) ∈ g_good ∧ Jvm.Cond.initialized (g_Y 23).cls ∈ g_good ∧ Jvm.Cond.code (g_Y 23) (g_B 23) (g_T 23).2.2.1 (g_R 23) ∈ g_good ∧ ((g_Y 23).cls ≠ "java/lang/invoke/MethodHandle" ∧ (g_Y 23).cls ≠ "java/lang/invoke/VarHandle") ∧ (parseMethodDescriptor (g_Y 23).desc).map (fun d => d.parameters.length) = some 1 ∧ (g_T 23).1 < 100 ∧ ∃ (Tf : u_T) (N : Nat), g_Cl[(g_T 23).1]? = some ((g_Y 23).cls, Tf, N) := ⟨(in_good pl_m16 13 rfl), (in_good pl_m16 14 rfl), (in_good pl_m16 5 rfl), (in_goodc (List.mem_append_right _ (List.mem_append_left _ (List.mem_of_getElem? (i := 221) rfl))) rfl), ⟨by decide, by decide⟩, by decide +kernel, by decide +kernel, ct_2, 11, rfl⟩
theorem mf_24 : Jvm.Cond.instanceMethod (g_Y 24) ∈ g_good ∧ Jvm.Cond.selects (g_Y 24).cls (g_Y 24) (g_Y 24) ∈ g_good ∧ Jvm.Cond.initialized (g_Y 24).cls ∈ g_good ∧ Jvm.Cond.code (g_Y 24) (g_B 24) (g_T 24).2.2.1 (g_R 24) ∈ g_good ∧ ((g_Y 24).cls ≠ "java/lang/invoke/MethodHandle" ∧ (g_Y 24).cls ≠ "java/lang/invoke/VarHandle") ∧ (parseMethodDescriptor (g_Y 24).desc).map (fun d => d.parameters.length) = some 1 ∧ (g_T 24).1 < 100 ∧ ∃ (Tf : u_T) (N : Nat), g_Cl[(g_T 24).1]? = some ((g_Y 24).cls, Tf, N) := ⟨(in_good pl_m16 15 rfl), (in_good pl_m16 16 rfl), (in_good pl_m16 5 rfl), (in_goodc (List.mem_append_right _ (List.mem_append_left _ (List.mem_of_getElem? (i := 225) rfl))) rfl), ⟨by decide, by decide⟩, by decide +kernel, by decide +kernel, ct_2, 11, rfl⟩
theorem mf_25 : Jvm.Cond.instanceMethod (g_Y 25) ∈ g_good ∧ Jvm.Cond.selects (g_Y 25).cls (g_Y 25) (g_Y 25) ∈ g_good ∧ Jvm.Cond.initialized (g_Y 25).cls ∈ g_good ∧ Jvm.Cond.code (g_Y 25) (g_B 25) (g_T 25).2.2.1 (g_R 25) ∈ g_good ∧ ((g_Y 25).cls ≠ "java/lang/invoke/MethodHandle" ∧ (g_Y 25).cls ≠ "java/lang/invoke/VarHandle") ∧ (parseMethodDescriptor (g_Y 25).desc).map (fun d => d.parameters.length) = some 0 ∧ (g_T 25).1 < 100 ∧ ∃ (Tf : u_T) (N : Nat), g_Cl[(g_T 25).1]? = some ((g_Y 25).cls, Tf, N) := ⟨(in_good pl_m16 17 rfl), (in_good pl_m16 18 rfl), (in_good pl_m16 5 rfl), (in_goodc (List.mem_append_right _ (List.mem_append_left _ (List.mem_of_getElem? (i := 85) rfl))) rfl), ⟨by decide, by decide⟩, by decide +kernel, by decide +kernel, ct_2, 11, rfl⟩
theorem mf_26 : Jvm.Cond.static (g_Y 26) ∈ g_good ∧ Jvm.Cond.initialized (g_Y 26).cls ∈ g_good ∧ Jvm.Cond.code (g_Y 26) (g_B 26) (g_T 26).2.2.1 (g_R 26) ∈ g_good ∧ ((g_Y 26).cls ≠ "java/lang/invoke/MethodHandle" ∧ (g_Y 26).cls ≠ "java/lang/invoke/VarHandle") ∧ (parseMethodDescriptor (g_Y 26).desc).map (fun d => d.parameters.length) = some 3 := ⟨(in_good pl_m16 19 rfl), (in_good pl_m16 5 rfl), (in_goodc (List.mem_append_right _ (List.mem_append_left _ (List.mem_of_getElem? (i := 91) rfl))) rfl), ⟨by decide, by decide⟩, by decide +kernel⟩
theorem mf_27 : Jvm.Cond.instanceMethod (g_Y 27) ∈ g_good ∧ Jvm.Cond.selects (g_Y 27).cls (g_Y 27) (g_Y 27) ∈ g_good ∧ Jvm.Cond.initialized (g_Y 27).cls ∈ g_good ∧ Jvm.Cond.code (g_Y 27) (g_B 27) (g_T 27).2.2.1 (g_R 27) ∈ g_good ∧ ((g_Y 27).cls ≠ "java/lang/invoke/MethodHandle" ∧ (g_Y 27).cls ≠ "java/lang/invoke/VarHandle") ∧ (parseMethodDescriptor (g_Y 27).desc).map (fun d => d.parameters.length) = some 0 ∧ (g_T 27).1 < 100 ∧ ∃ (Tf : u_T) (N : Nat), g_Cl[(g_T 27).1]? = some ((g_Y 27).cls, Tf, N) := ⟨(in_good pl_m16 20 rfl), (in_good pl_m16 21 rfl), (in_good pl_m16 5 rfl), (in_goodc (List.mem_append_right _ (List.mem_append_left _ (List.mem_of_getElem? (i := 95) rfl))) rfl), ⟨by decide, by decide⟩, by decide +kernel, by decide +kernel, ct_2, 11, rfl⟩
theorem mf_28 : Jvm.Cond.instanceMethod (g_Y 28) ∈ g_good ∧ Jvm.Cond.selects (g_Y 28).cls (g_Y 28) (g_Y 28) ∈ g_good ∧ Jvm.Cond.initialized (g_Y 28).cls ∈ g_good ∧ Jvm.Cond.code (g_Y 28) (g_B 28) (g_T 28).2.2.1 (g_R 28) ∈ g_good ∧ ((g_Y 28).cls ≠ "java/lang/invoke/MethodHandle" ∧ (g_Y 28).cls ≠ "java/lang/invoke/VarHandle") ∧ (parseMethodDescriptor (g_Y 28).desc).map (fun d => d.parameters.length) = some 0 ∧ (g_T 28).1 < 100 ∧ ∃ (Tf : u_T) (N : Nat), g_Cl[(g_T 28).1]? = some ((g_Y 28).cls, Tf, N) := ⟨(in_good pl_m16 22 rfl), (in_good pl_m16 23 rfl), (in_good pl_m16 5 rfl), (in_goodc (List.mem_append_right _ (List.mem_append_left _ (List.mem_of_getElem? (i := 99) rfl))) rfl), ⟨by decide, by decide⟩, by decide +kernel, by decide +kernel, ct_2, 11, rfl⟩
theorem mf_29 : Jvm.Cond.instanceMethod (g_Y 29) ∈ g_good ∧ Jvm.Cond.selects (g_Y 29).cls (g_Y 29) (g_Y 29) ∈ g_good ∧ Jvm.Cond.initialized (g_Y 29).cls ∈ g_good ∧ Jvm.Cond.code (g_Y 29) (g_B 29) (g_T 29).2.2.1 (g_R 29) ∈ g_good ∧ ((g_Y 29).cls ≠ "java/lang/invoke/MethodHandle" ∧ (g_Y 29).cls ≠ "java/lang/invoke/VarHandle") ∧ (parseMethodDescriptor (g_Y 29).desc).map (fun d => d.parameters.length) = some 0 ∧ (g_T 29).1 < 100 ∧ ∃ (Tf : u_T) (N : Nat), g_Cl[(g_T 29).1]? = some ((g_Y 29).cls, Tf, N) := ⟨(in_good pl_m16 24 rfl), (in_good pl_m16 25 rfl), (in_good pl_m16 5 rfl), (in_goodc (List.mem_append_right _ (List.mem_append_left _ (List.mem_of_getElem? (i := 103) rfl))) rfl), ⟨by decide, by decide⟩, by decide +kernel, by decide +kernel, ct_2, 11, rfl⟩
theorem mf_30 : Jvm.Cond.instanceMethod (g_Y 30) ∈ g_good ∧ Jvm.Cond.selects (g_Y 30).cls (g_Y 30) (g_Y 30) ∈ g_good ∧ Jvm.Cond.initialized (g_Y 30).cls ∈ g_good ∧ Jvm.Cond.code (g_Y 30) (g_B 30) (g_T 30).2.2.1 (g_R 30) ∈ g_good ∧ ((g_Y 30).cls ≠ "java/lang/invoke/MethodHandle" ∧ (g_Y 30).cls ≠ "java/lang/invoke/VarHandle") ∧ (parseMethodDescriptor (g_Y 30).desc).map (fun d => d.parameters.length) = some 1 ∧ (g_T 30).1 < 100 ∧ ∃ (Tf : u_T) (N : Nat), g_Cl[(g_T 30).1]? = some ((g_Y 30).cls, Tf, N) := ⟨(in_good pl_m16 26 rfl), (in_good pl_m16 27 rfl), (in_good pl_m16 5 rfl), (in_goodc (List.mem_append_right _ (List.mem_append_left _ (List.mem_of_getElem? (i := 107) rfl))) rfl), ⟨by decide, by decide⟩, by decide +kernel, by decide +kernel, ct_2, 11, rfl⟩
theorem mf_31 : Jvm.Cond.instanceMethod (g_Y 31) ∈ g_good ∧ Jvm.Cond.selects (g_Y 31).cls (g_Y 31) (g_Y 31) ∈ g_good ∧ Jvm.Cond.initialized (g_Y 31).cls ∈ g_good ∧ Jvm.Cond.code (g_Y 31) (g_B 31) (g_T 31).2.2.1 (g_R 31) ∈ g_good ∧ ((g_Y 31).cls ≠ "java/lang/invoke/MethodHandle" ∧ (g_Y 31).cls ≠ "java/lang/invoke/VarHandle") ∧ (parseMethodDescriptor (g_Y 31).desc).map (fun d => d.parameters.length) = some 1 ∧ (g_T 31).1 < 100 ∧ ∃ (Tf : u_T) (N : Nat), g_Cl[(g_T 31).1]? = some ((g_Y 31).cls, Tf, N) := ⟨(in_good pl_m16 28 rfl), (in_good pl_m16 29 rfl), (in_good pl_m16 5 rfl), (in_goodc (List.mem_append_right _ (List.mem_append_left _ (List.mem_of_getElem? (i := 111) rfl))) rfl), ⟨by decide, by decide⟩, by decide +kernel, by decide +kernel, ct_2, 11, rfl⟩
theorem mf_32 : Jvm.Cond.instanceMethod (g_Y 32) ∈ g_good ∧ Jvm.Cond.selects (g_Y 32).cls (g_Y 32) (g_Y 32) ∈ g_good ∧ Jvm.Cond.initialized (g_Y 32).cls ∈ g_good ∧ Jvm.Cond.code (g_Y 32) (g_B 32) (g_T 32).2.2.1 (g_R 32) ∈ g_good ∧ ((g_Y 32).cls ≠ "java/lang/invoke/MethodHandle" ∧ (g_Y 32).cls ≠ "java/lang/invoke/VarHandle") ∧ (parseMethodDescriptor (g_Y 32).desc).map (fun d => d.parameters.length) = some 1 ∧ (g_T 32).1 < 100 ∧ ∃ (Tf : u_T) (N : Nat), g_Cl[(g_T 32).1]? = some ((g_Y 32).cls, Tf, N) := ⟨(in_good pl_m16 30 rfl), (in_good pl_m16 31 rfl), (in_good pl_m16 5 rfl), (in_goodc (List.mem_append_right _ (List.mem_append_left _ (List.mem_of_getElem? (i := 115) rfl))) rfl), ⟨by decide, by decide⟩, by decide +kernel, by decide +kernel, ct_2, 11, rfl⟩
def PL_m32 : List (Nat × Jvm.Cond) := [(36, (Jvm.Cond.initialized "LayeredDrawing$Layering")),
  (395, (Jvm.Cond.instanceMethod ({ cls := "LayeredDrawing$Layering", name := "moveFlow", desc := "(II)V" } : Jvm.MethodName))),
  (8, (Jvm.Cond.selects "LayeredDrawing$Layering" ({ cls := "LayeredDrawing$Layering", name := "moveFlow", desc := "(II)V" } : Jvm.MethodName) ({ cls := "LayeredDrawing$Layering", name := "moveFlow", desc := "(II)V" } : Jvm.MethodName))),
  (37, (Jvm.Cond.initialized "LayeredDrawing$Order")),
  (166, (Jvm.Cond.instanceMethod ({ cls := "LayeredDrawing$Order", name := "<init>", desc := "(LLayeredDrawing$Graph;LLayeredDrawing$Layering;)V" } : Jvm.MethodName))),
  (429, (Jvm.Cond.instanceMethod ({ cls := "LayeredDrawing$Order", name := "build", desc := "()V" } : Jvm.MethodName))),
  (430, (Jvm.Cond.selects "LayeredDrawing$Order" ({ cls := "LayeredDrawing$Order", name := "build", desc := "()V" } : Jvm.MethodName) ({ cls := "LayeredDrawing$Order", name := "build", desc := "()V" } : Jvm.MethodName))),
  (434, (Jvm.Cond.instanceMethod ({ cls := "LayeredDrawing$Order", name := "putVertex", desc := "(II)V" } : Jvm.MethodName))),
  (10, (Jvm.Cond.selects "LayeredDrawing$Order" ({ cls := "LayeredDrawing$Order", name := "putVertex", desc := "(II)V" } : Jvm.MethodName) ({ cls := "LayeredDrawing$Order", name := "putVertex", desc := "(II)V" } : Jvm.MethodName))),
  (438, (Jvm.Cond.instanceMethod ({ cls := "LayeredDrawing$Order", name := "orderByNames", desc := "()V" } : Jvm.MethodName))),
  (11, (Jvm.Cond.selects "LayeredDrawing$Order" ({ cls := "LayeredDrawing$Order", name := "orderByNames", desc := "()V" } : Jvm.MethodName) ({ cls := "LayeredDrawing$Order", name := "orderByNames", desc := "()V" } : Jvm.MethodName))),
  (727, (Jvm.Cond.instanceMethod ({ cls := "LayeredDrawing$Order", name := "named", desc := "(I)I" } : Jvm.MethodName))),
  (728, (Jvm.Cond.selects "LayeredDrawing$Order" ({ cls := "LayeredDrawing$Order", name := "named", desc := "(I)I" } : Jvm.MethodName) ({ cls := "LayeredDrawing$Order", name := "named", desc := "(I)I" } : Jvm.MethodName))),
  (500, (Jvm.Cond.instanceMethod ({ cls := "LayeredDrawing$Order", name := "onEdge", desc := "(II)I" } : Jvm.MethodName))),
  (501, (Jvm.Cond.selects "LayeredDrawing$Order" ({ cls := "LayeredDrawing$Order", name := "onEdge", desc := "(II)I" } : Jvm.MethodName) ({ cls := "LayeredDrawing$Order", name := "onEdge", desc := "(II)I" } : Jvm.MethodName))),
  (484, (Jvm.Cond.instanceMethod ({ cls := "LayeredDrawing$Order", name := "hasPartBelow", desc := "(II)Z" } : Jvm.MethodName))),
  (485, (Jvm.Cond.selects "LayeredDrawing$Order" ({ cls := "LayeredDrawing$Order", name := "hasPartBelow", desc := "(II)Z" } : Jvm.MethodName) ({ cls := "LayeredDrawing$Order", name := "hasPartBelow", desc := "(II)Z" } : Jvm.MethodName))),
  (445, (Jvm.Cond.instanceMethod ({ cls := "LayeredDrawing$Order", name := "groupAt", desc := "(I)I" } : Jvm.MethodName))),
  (446, (Jvm.Cond.selects "LayeredDrawing$Order" ({ cls := "LayeredDrawing$Order", name := "groupAt", desc := "(I)I" } : Jvm.MethodName) ({ cls := "LayeredDrawing$Order", name := "groupAt", desc := "(I)I" } : Jvm.MethodName))),
  (468, (Jvm.Cond.instanceMethod ({ cls := "LayeredDrawing$Order", name := "widthAt", desc := "(I)I" } : Jvm.MethodName))),
  (469, (Jvm.Cond.selects "LayeredDrawing$Order" ({ cls := "LayeredDrawing$Order", name := "widthAt", desc := "(I)I" } : Jvm.MethodName) ({ cls := "LayeredDrawing$Order", name := "widthAt", desc := "(I)I" } : Jvm.MethodName))),
  (453, (Jvm.Cond.instanceMethod ({ cls := "LayeredDrawing$Order", name := "sizeOf", desc := "(I)I" } : Jvm.MethodName))),
  (454, (Jvm.Cond.selects "LayeredDrawing$Order" ({ cls := "LayeredDrawing$Order", name := "sizeOf", desc := "(I)I" } : Jvm.MethodName) ({ cls := "LayeredDrawing$Order", name := "sizeOf", desc := "(I)I" } : Jvm.MethodName))),
  (719, (Jvm.Cond.instanceMethod ({ cls := "LayeredDrawing$Order", name := "at", desc := "(II)I" } : Jvm.MethodName))),
  (720, (Jvm.Cond.selects "LayeredDrawing$Order" ({ cls := "LayeredDrawing$Order", name := "at", desc := "(II)I" } : Jvm.MethodName) ({ cls := "LayeredDrawing$Order", name := "at", desc := "(II)I" } : Jvm.MethodName))),
  (508, (Jvm.Cond.instanceMethod ({ cls := "LayeredDrawing$Order", name := "remember", desc := "()V" } : Jvm.MethodName))),
  (509, (Jvm.Cond.selects "LayeredDrawing$Order" ({ cls := "LayeredDrawing$Order", name := "remember", desc := "()V" } : Jvm.MethodName) ({ cls := "LayeredDrawing$Order", name := "remember", desc := "()V" } : Jvm.MethodName))),
  (533, (Jvm.Cond.instanceMethod ({ cls := "LayeredDrawing$Order", name := "isReordered", desc := "()Z" } : Jvm.MethodName))),
  (534, (Jvm.Cond.selects "LayeredDrawing$Order" ({ cls := "LayeredDrawing$Order", name := "isReordered", desc := "()Z" } : Jvm.MethodName) ({ cls := "LayeredDrawing$Order", name := "isReordered", desc := "()Z" } : Jvm.MethodName))),
  (573, (Jvm.Cond.instanceMethod ({ cls := "LayeredDrawing$Order", name := "takeOrder", desc := "([I)V" } : Jvm.MethodName))),
  (574, (Jvm.Cond.selects "LayeredDrawing$Order" ({ cls := "LayeredDrawing$Order", name := "takeOrder", desc := "([I)V" } : Jvm.MethodName) ({ cls := "LayeredDrawing$Order", name := "takeOrder", desc := "([I)V" } : Jvm.MethodName))),
  (461, (Jvm.Cond.instanceMethod ({ cls := "LayeredDrawing$Order", name := "setPlaces", desc := "(I)V" } : Jvm.MethodName))),
  (14, (Jvm.Cond.selects "LayeredDrawing$Order" ({ cls := "LayeredDrawing$Order", name := "setPlaces", desc := "(I)V" } : Jvm.MethodName) ({ cls := "LayeredDrawing$Order", name := "setPlaces", desc := "(I)V" } : Jvm.MethodName)))]
theorem pl_m32 : PL_m32.all (fun q => decide (lw_tbl[q.1]? = some q.2) && goodWord q.2) = true := by decide +kernel
theorem mf_33 : Jvm.Cond.instanceMethod (g_Y 33) ∈ g_good ∧ Jvm.Cond.selects (g_Y 33).cls (g_Y 33) (g_Y 33) ∈ g_good ∧ Jvm.Cond.initialized (g_Y 33).cls ∈ g_good ∧ Jvm.Cond.code (g_Y 33) (g_B 33) (g_T 33).2.2.1 (g_R 33) ∈ g_good ∧ ((g_Y 33).cls ≠ "java/lang/invoke/MethodHandle" ∧ (g_Y 33).cls ≠ "java/lang/invoke/VarHandle") ∧ (parseMethodDescriptor (g_Y 33).desc).map (fun d => d.parameters.length) = some 2 ∧ (g_T 33).1 < 100 ∧ ∃ (Tf : u_T) (N : Nat), g_Cl[(g_T 33).1]? = some ((g_Y 33).cls, Tf, N) := ⟨(in_good pl_m32 1 rfl), (in_good pl_m32 2 rfl), (in_good pl_m32 0 rfl), (in_goodc (List.mem_append_right _ (List.mem_append_left _ (List.mem_of_getElem? (i := 123) rfl))) rfl), ⟨by decide, by decide⟩, by decide +kernel, by decide +kernel, ct_2, 11, rfl⟩
theorem mf_34 : Jvm.Cond.instanceMethod (g_Y 34) ∈ g_good ∧ (g_Y 34).name = "<init>" ∧ g_R 34 = none ∧ Jvm.Cond.initialized (g_Y 34).cls ∈ g_good ∧ Jvm.Cond.code (g_Y 34) (g_B 34) (g_T 34).2.2.1 (g_R 34) ∈ g_good ∧ ((g_Y 34).cls ≠ "java/lang/invoke/MethodHandle" ∧ (g_Y 34).cls ≠ "java/lang/invoke/VarHandle") ∧ (parseMethodDescriptor (g_Y 34).desc).map (fun d => d.parameters.length) = some 2 := ⟨(in_good pl_m32 4 rfl), rfl, rfl, (in_good pl_m32 3 rfl), (in_goodc (List.mem_append_left _ (List.mem_of_getElem? (i := 134) rfl)) rfl), ⟨by decide, by decide⟩, by decide +kernel⟩
theorem mf_35 : Jvm.Cond.instanceMethod (g_Y 35) ∈ g_good ∧ Jvm.Cond.selects (g_Y 35).cls (g_Y 35) (g_Y 35) ∈ g_good ∧ Jvm.Cond.initialized (g_Y 35).cls ∈ g_good ∧ Jvm.Cond.code (g_Y 35) (g_B 35) (g_T 35).2.2.1 (g_R 35) ∈ g_good ∧ ((g_Y 35).cls ≠ "java/lang/invoke/MethodHandle" ∧ (g_Y 35).cls ≠ "java/lang/invoke/VarHandle") ∧ (parseMethodDescriptor (g_Y 35).desc).map (fun d => d.parameters.length) = some 0 ∧ (g_T 35).1 < 100 ∧ ∃ (Tf : u_T) (N : Nat), g_Cl[(g_T 35).1]? = some ((g_Y 35).cls, Tf, N) := ⟨(in_good pl_m32 5 rfl), (in_good pl_m32 6 rfl), (in_good pl_m32 3 rfl), (in_goodc (List.mem_append_right _ (List.mem_append_left _ (List.mem_of_getElem? (i := 158) rfl))) rfl), ⟨by decide, by decide⟩, by decide +kernel, by decide +kernel, ct_3, 16, rfl⟩
theorem mf_36 : Jvm.Cond.instanceMethod (g_Y 36) ∈ g_good ∧ Jvm.Cond.selects (g_Y 36).cls (g_Y 36) (g_Y 36) ∈ g_good ∧ Jvm.Cond.initialized (g_Y 36).cls ∈ g_good ∧ Jvm.Cond.code (g_Y 36) (g_B 36) (g_T 36).2.2.1 (g_R 36) ∈ g_good ∧ ((g_Y 36).cls ≠ "java/lang/invoke/MethodHandle" ∧ (g_Y 36).cls ≠ "java/lang/invoke/VarHandle") ∧ (parseMethodDescriptor (g_Y 36).desc).map (fun d => d.parameters.length) = some 2 ∧ (g_T 36).1 < 100 ∧ ∃ (Tf : u_T) (N : Nat), g_Cl[(g_T 36).1]? = some ((g_Y 36).cls, Tf, N) := ⟨(in_good pl_m32 7 rfl), (in_good pl_m32 8 rfl), (in_good pl_m32 3 rfl), (in_goodc (List.mem_append_right _ (List.mem_append_left _ (List.mem_of_getElem? (i := 162) rfl))) rfl), ⟨by decide, by decide⟩, by decide +kernel, by decide +kernel, ct_3, 16, rfl⟩
theorem mf_37 : Jvm.Cond.instanceMethod (g_Y 37) ∈ g_good ∧ Jvm.Cond.selects (g_Y 37).cls (g_Y 37) (g_Y 37) ∈ g_good ∧ Jvm.Cond.initialized (g_Y 37).cls ∈ g_good ∧ Jvm.Cond.code (g_Y 37) (g_B 37) (g_T 37).2.2.1 (g_R 37) ∈ g_good ∧ ((g_Y 37).cls ≠ "java/lang/invoke/MethodHandle" ∧ (g_Y 37).cls ≠ "java/lang/invoke/VarHandle") ∧ (parseMethodDescriptor (g_Y 37).desc).map (fun d => d.parameters.length) = some 0 ∧ (g_T 37).1 < 100 ∧ ∃ (Tf : u_T) (N : Nat), g_Cl[(g_T 37).1]? = some ((g_Y 37).cls, Tf, N) := ⟨(in_good pl_m32 9 rfl), (in_good pl_m32 10 rfl), (in_good pl_m32 3 rfl), (in_goodc (List.mem_append_right _ (List.mem_append_left _ (List.mem_of_getElem? (i := 166) rfl))) rfl), ⟨by decide, by decide⟩, by decide +kernel, by decide +kernel, ct_3, 16, rfl⟩
theorem mf_38 : Jvm.Cond.instanceMethod (g_Y 38) ∈ g_good ∧ Jvm.Cond.selects (g_Y 38).cls (g_Y 38) (g_Y 38) ∈ g_good ∧ Jvm.Cond.initialized (g_Y 38).cls ∈ g_good ∧ Jvm.Cond.code (g_Y 38) (g_B 38) (g_T 38).2.2.1 (g_R 38) ∈ g_good ∧ ((g_Y 38).cls ≠ "java/lang/invoke/MethodHandle" ∧ (g_Y 38).cls ≠ "java/lang/invoke/VarHandle") ∧ (parseMethodDescriptor (g_Y 38).desc).map (fun d => d.parameters.length) = some 1 ∧ (g_T 38).1 < 100 ∧ ∃ (Tf : u_T) (N : Nat), g_Cl[(g_T 38).1]? = some ((g_Y 38).cls, Tf, N) := ⟨(in_good pl_m32 11 rfl), (in_good pl_m32 12 rfl), (in_good pl_m32 3 rfl), (in_goodc (List.mem_append_right _ (List.mem_append_right _ (List.mem_append_left _ (List.mem_of_getElem? (i := 216) rfl)))) rfl), ⟨by decide, by decide⟩, by decide +kernel, by decide +kernel, ct_3, 16, rfl⟩
theorem mf_39 : Jvm.Cond.instanceMethod (g_Y 39) ∈ g_good ∧ Jvm.Cond.selects (g_Y 39).cls (g_Y 39) (g_Y 39) ∈ g_good ∧ Jvm.Cond.initialized (g_Y 39).cls ∈ g_good ∧ Jvm.Cond.code (g_Y 39) (g_B 39) (g_T 39).2.2.1 (g_R 39) ∈ g_good ∧ ((g_Y 39).cls ≠ "java/lang/invoke/MethodHandle" ∧ (g_Y 39).cls ≠ "java/lang/invoke/VarHandle") ∧ (parseMethodDescriptor (g_Y 39).desc).map (fun d => d.parameters.length) = some 2 ∧ (g_T 39).1 < 100 ∧ ∃ (Tf : u_T) (N : Nat), g_Cl[(g_T 39).1]? = some ((g_Y 39).cls, Tf, N) := ⟨(in_good pl_m32 13 rfl), (in_good pl_m32 14 rfl), (in_good pl_m32 3 rfl), (in_goodc (List.mem_append_right _ (List.mem_append_left _ (List.mem_of_getElem? (i := 229) rfl))) rfl), ⟨by decide, by decide⟩, by decide +kernel, by decide +kernel, ct_3, 16, rfl⟩
theorem mf_40 : Jvm.Cond.instanceMethod (g_Y 40) ∈ g_good ∧ Jvm.Cond.selects (g_Y 40).cls (g_Y 40) (g_Y 40) ∈ g_good ∧ Jvm.Cond.initialized (g_Y 40).cls ∈ g_good ∧ Jvm.Cond.code (g_Y 40) (g_B 40) (g_T 40).2.2.1 (g_R 40) ∈ g_good ∧ ((g_Y 40).cls ≠ "java/lang/invoke/MethodHandle" ∧ (g_Y 40).cls ≠ "java/lang/invoke/VarHandle") ∧ (parseMethodDescriptor (g_Y 40).desc).map (fun d => d.parameters.length) = some 2 ∧ (g_T 40).1 < 100 ∧ ∃ (Tf : u_T) (N : Nat), g_Cl[(g_T 40).1]? = some ((g_Y 40).cls, Tf, N) := ⟨(in_good pl_m32 15 rfl), (in_good pl_m32 16 rfl), (in_good pl_m32 3 rfl), (in_goodc (List.mem_append_right _ (List.mem_append_left _ (List.mem_of_getElem? (i := 213) rfl))) rfl), ⟨by decide, by decide⟩, by decide +kernel, by decide +kernel, ct_3, 16, rfl⟩
theorem mf_41 : Jvm.Cond.instanceMethod (g_Y 41) ∈ g_good ∧ Jvm.Cond.selects (g_Y 41).cls (g_Y 41) (g_Y 41) ∈ g_good ∧ Jvm.Cond.initialized (g_Y 41).cls ∈ g_good ∧ Jvm.Cond.code (g_Y 41) (g_B 41) (g_T 41).2.2.1 (g_R 41) ∈ g_good ∧ ((g_Y 41).cls ≠ "java/lang/invoke/MethodHandle" ∧ (g_Y 41).cls ≠ "java/lang/invoke/VarHandle") ∧ (parseMethodDescriptor (g_Y 41).desc).map (fun d => d.parameters.length) = some 1 ∧ (g_T 41).1 < 100 ∧ ∃ (Tf : u_T) (N : Nat), g_Cl[(g_T 41).1]? = some ((g_Y 41).cls, Tf, N) := ⟨(in_good pl_m32 17 rfl), (in_good pl_m32 18 rfl), (in_good pl_m32 3 rfl), (in_goodc (List.mem_append_right _ (List.mem_append_left _ (List.mem_of_getElem? (i := 174) rfl))) rfl), ⟨by decide, by decide⟩, by decide +kernel, by decide +kernel, ct_3, 16, rfl⟩
theorem mf_42 : Jvm.Cond.instanceMethod (g_Y 42) ∈ g_good ∧ Jvm.Cond.selects (g_Y 42).cls (g_Y 42) (g_Y 42) ∈ g_good ∧ Jvm.Cond.initialized (g_Y 42).cls ∈ g_good ∧ Jvm.Cond.code (g_Y 42) (g_B 42) (g_T 42).2.2.1 (g_R 42) ∈ g_good ∧ ((g_Y 42).cls ≠ "java/lang/invoke/MethodHandle" ∧ (g_Y 42).cls ≠ "java/lang/invoke/VarHandle") ∧ (parseMethodDescriptor (g_Y 42).desc).map (fun d => d.parameters.length) = some 1 ∧ (g_T 42).1 < 100 ∧ ∃ (Tf : u_T) (N : Nat), g_Cl[(g_T 42).1]? = some ((g_Y 42).cls, Tf, N) := ⟨(in_good pl_m32 19 rfl), (in_good pl_m32 20 rfl), (in_good pl_m32 3 rfl), (in_goodc (List.mem_append_right _ (List.mem_append_left _ (List.mem_of_getElem? (i := 197) rfl))) rfl), ⟨by decide, by decide⟩, by decide +kernel, by decide +kernel, ct_3, 16, rfl⟩
theorem mf_43 : Jvm.Cond.instanceMethod (g_Y 43) ∈ g_good ∧ Jvm.Cond.selects (g_Y 43).cls (g_Y 43) (g_Y 43) ∈ g_good ∧ Jvm.Cond.initialized (g_Y 43).cls ∈ g_good ∧ Jvm.Cond.code (g_Y 43) (g_B 43) (g_T 43).2.2.1 (g_R 43) ∈ g_good ∧ ((g_Y 43).cls ≠ "java/lang/invoke/MethodHandle" ∧ (g_Y 43).cls ≠ "java/lang/invoke/VarHandle") ∧ (parseMethodDescriptor (g_Y 43).desc).map (fun d => d.parameters.length) = some 1 ∧ (g_T 43).1 < 100 ∧ ∃ (Tf : u_T) (N : Nat), g_Cl[(g_T 43).1]? = some ((g_Y 43).cls, Tf, N) := ⟨(in_good pl_m32 21 rfl), (in_good pl_m32 22 rfl), (in_good pl_m32 3 rfl), (in_goodc (List.mem_append_right _ (List.mem_append_left _ (List.mem_of_getElem? (i := 182) rfl))) rfl), ⟨by decide, by decide⟩, by decide +kernel, by decide +kernel, ct_3, 16, rfl⟩
theorem mf_44 : Jvm.Cond.instanceMethod (g_Y 44) ∈ g_good ∧ Jvm.Cond.selects (g_Y 44).cls (g_Y 44) (g_Y 44) ∈ g_good ∧ Jvm.Cond.initialized (g_Y 44).cls ∈ g_good ∧ Jvm.Cond.code (g_Y 44) (g_B 44) (g_T 44).2.2.1 (g_R 44) ∈ g_good ∧ ((g_Y 44).cls ≠ "java/lang/invoke/MethodHandle" ∧ (g_Y 44).cls ≠ "java/lang/invoke/VarHandle") ∧ (parseMethodDescriptor (g_Y 44).desc).map (fun d => d.parameters.length) = some 2 ∧ (g_T 44).1 < 100 ∧ ∃ (Tf : u_T) (N : Nat), g_Cl[(g_T 44).1]? = some ((g_Y 44).cls, Tf, N) := ⟨(in_good pl_m32 23 rfl), (in_good pl_m32 24 rfl), (in_good pl_m32 3 rfl), (in_goodc (List.mem_append_right _ (List.mem_append_right _ (List.mem_append_left _ (List.mem_of_getElem? (i := 208) rfl)))) rfl), ⟨by decide, by decide⟩, by decide +kernel, by decide +kernel, ct_3, 16, rfl⟩
theorem mf_45 : Jvm.Cond.instanceMethod (g_Y 45) ∈ g_good ∧ Jvm.Cond.selects (g_Y 45).cls (g_Y 45) (g_Y 45) ∈ g_good ∧ Jvm.Cond.initialized (g_Y 45).cls ∈ g_good ∧ Jvm.Cond.code (g_Y 45) (g_B 45) (g_T 45).2.2.1 (g_R 45) ∈ g_good ∧ ((g_Y 45).cls ≠ "java/lang/invoke/MethodHandle" ∧ (g_Y 45).cls ≠ "java/lang/invoke/VarHandle") ∧ (parseMethodDescriptor (g_Y 45).desc).map (fun d => d.parameters.length) = some 0 ∧ (g_T 45).1 < 100 ∧ ∃ (Tf : u_T) (N : Nat), g_Cl[(g_T 45).1]? = some ((g_Y 45).cls, Tf, N) := ⟨(in_good pl_m32 25 rfl), (in_good pl_m32 26 rfl), (in_good pl_m32 3 rfl), (in_goodc (List.mem_append_right _ (List.mem_append_left _ (List.mem_of_getElem? (i := 237) rfl))) rfl), ⟨by decide, by decide⟩, by decide +kernel, by decide +kernel, ct_3, 16, rfl⟩
theorem mf_46 : Jvm.Cond.instanceMethod (g_Y 46) ∈ g_good ∧ Jvm.Cond.selects (g_Y 46).cls (g_Y 46) (g_Y 46) ∈ g_good ∧ Jvm.Cond.initialized (g_Y 46).cls ∈ g_good ∧ Jvm.Cond.code (g_Y 46) (g_B 46) (g_T 46).2.2.1 (g_R 46) ∈ g_good ∧ ((g_Y 46).cls ≠ "java/lang/invoke/MethodHandle" ∧ (g_Y 46).cls ≠ "java/lang/invoke/VarHandle") ∧ (parseMethodDescriptor (g_Y 46).desc).map (fun d => d.parameters.length) = some 0 ∧ (g_T 46).1 < 100 ∧ ∃ (Tf : u_T) (N : Nat), g_Cl[(g_T 46).1]? = some ((g_Y 46).cls, Tf, N) := ⟨(in_good pl_m32 27 rfl), (in_good pl_m32 28 rfl), (in_good pl_m32 3 rfl), (in_goodc (List.mem_append_right _ (List.mem_append_right _ (List.mem_append_left _ (List.mem_of_getElem? (i := 22) rfl)))) rfl), ⟨by decide, by decide⟩, by decide +kernel, by decide +kernel, ct_3, 16, rfl⟩
theorem mf_47 : Jvm.Cond.instanceMethod (g_Y 47) ∈ g_good ∧ Jvm.Cond.selects (g_Y 47).cls (g_Y 47) (g_Y 47) ∈ g_good ∧ Jvm.Cond.initialized (g_Y 47).cls ∈ g_good ∧ Jvm.Cond.code (g_Y 47) (g_B 47) (g_T 47).2.2.1 (g_R 47) ∈ g_good ∧ ((g_Y 47).cls ≠ "java/lang/invoke/MethodHandle" ∧ (g_Y 47).cls ≠ "java/lang/invoke/VarHandle") ∧ (parseMethodDescriptor (g_Y 47).desc).map (fun d => d.parameters.length) = some 1 ∧ (g_T 47).1 < 100 ∧ ∃ (Tf : u_T) (N : Nat), g_Cl[(g_T 47).1]? = some ((g_Y 47).cls, Tf, N) := ⟨(in_good pl_m32 29 rfl), (in_good pl_m32 30 rfl), (in_good pl_m32 3 rfl), (in_goodc (List.mem_append_right _ (List.mem_append_right _ (List.mem_append_left _ (List.mem_of_getElem? (i := 62) rfl)))) rfl), ⟨by decide, by decide⟩, by decide +kernel, by decide +kernel, ct_3, 16, rfl⟩
theorem mf_48 : Jvm.Cond.instanceMethod (g_Y 48) ∈ g_good ∧ Jvm.Cond.selects (g_Y 48).cls (g_Y 48) (g_Y 48) ∈ g_good ∧ Jvm.Cond.initialized (g_Y 48).cls ∈ g_good ∧ Jvm.Cond.code (g_Y 48) (g_B 48) (g_T 48).2.2.1 (g_R 48) ∈ g_good ∧ ((g_Y 48).cls ≠ "java/lang/invoke/MethodHandle" ∧ (g_Y 48).cls ≠ "java/lang/invoke/VarHandle") ∧ (parseMethodDescriptor (g_Y 48).desc).map (fun d => d.parameters.length) = some 1 ∧ (g_T 48).1 < 100 ∧ ∃ (Tf : u_T) (N : Nat), g_Cl[(g_T 48).1]? = some ((g_Y 48).cls, Tf, N) := ⟨(in_good pl_m32 31 rfl), (in_good pl_m32 32 rfl), (in_good pl_m32 3 rfl), (in_goodc (List.mem_append_right _ (List.mem_append_left _ (List.mem_of_getElem? (i := 189) rfl))) rfl), ⟨by decide, by decide⟩, by decide +kernel, by decide +kernel, ct_3, 16, rfl⟩
def PL_m48 : List (Nat × Jvm.Cond) := [(37, (Jvm.Cond.initialized "LayeredDrawing$Order")),
  (554, (Jvm.Cond.instanceMethod ({ cls := "LayeredDrawing$Order", name := "swap", desc := "(II)V" } : Jvm.MethodName))),
  (555, (Jvm.Cond.selects "LayeredDrawing$Order" ({ cls := "LayeredDrawing$Order", name := "swap", desc := "(II)V" } : Jvm.MethodName) ({ cls := "LayeredDrawing$Order", name := "swap", desc := "(II)V" } : Jvm.MethodName))),
  (551, (Jvm.Cond.instanceMethod ({ cls := "LayeredDrawing$Order", name := "moveTo", desc := "(II)V" } : Jvm.MethodName))),
  (20, (Jvm.Cond.selects "LayeredDrawing$Order" ({ cls := "LayeredDrawing$Order", name := "moveTo", desc := "(II)V" } : Jvm.MethodName) ({ cls := "LayeredDrawing$Order", name := "moveTo", desc := "(II)V" } : Jvm.MethodName))),
  (442, (Jvm.Cond.instanceMethod ({ cls := "LayeredDrawing$Order", name := "closeGroups", desc := "(I)V" } : Jvm.MethodName))),
  (12, (Jvm.Cond.selects "LayeredDrawing$Order" ({ cls := "LayeredDrawing$Order", name := "closeGroups", desc := "(I)V" } : Jvm.MethodName) ({ cls := "LayeredDrawing$Order", name := "closeGroups", desc := "(I)V" } : Jvm.MethodName))),
  (450, (Jvm.Cond.instanceMethod ({ cls := "LayeredDrawing$Order", name := "putGroup", desc := "(IIII)I" } : Jvm.MethodName))),
  (13, (Jvm.Cond.selects "LayeredDrawing$Order" ({ cls := "LayeredDrawing$Order", name := "putGroup", desc := "(IIII)I" } : Jvm.MethodName) ({ cls := "LayeredDrawing$Order", name := "putGroup", desc := "(IIII)I" } : Jvm.MethodName))),
  (558, (Jvm.Cond.instanceMethod ({ cls := "LayeredDrawing$Order", name := "groupsTogether", desc := "(I)Z" } : Jvm.MethodName))),
  (559, (Jvm.Cond.selects "LayeredDrawing$Order" ({ cls := "LayeredDrawing$Order", name := "groupsTogether", desc := "(I)Z" } : Jvm.MethodName) ({ cls := "LayeredDrawing$Order", name := "groupsTogether", desc := "(I)Z" } : Jvm.MethodName))),
  (489, (Jvm.Cond.instanceMethod ({ cls := "LayeredDrawing$Order", name := "spotOf", desc := "(II)I" } : Jvm.MethodName))),
  (15, (Jvm.Cond.selects "LayeredDrawing$Order" ({ cls := "LayeredDrawing$Order", name := "spotOf", desc := "(II)I" } : Jvm.MethodName) ({ cls := "LayeredDrawing$Order", name := "spotOf", desc := "(II)I" } : Jvm.MethodName))),
  (480, (Jvm.Cond.instanceMethod ({ cls := "LayeredDrawing$Order", name := "countBelow", desc := "(I)I" } : Jvm.MethodName))),
  (481, (Jvm.Cond.selects "LayeredDrawing$Order" ({ cls := "LayeredDrawing$Order", name := "countBelow", desc := "(I)I" } : Jvm.MethodName) ({ cls := "LayeredDrawing$Order", name := "countBelow", desc := "(I)I" } : Jvm.MethodName))),
  (476, (Jvm.Cond.instanceMethod ({ cls := "LayeredDrawing$Order", name := "countAll", desc := "()I" } : Jvm.MethodName))),
  (477, (Jvm.Cond.selects "LayeredDrawing$Order" ({ cls := "LayeredDrawing$Order", name := "countAll", desc := "()I" } : Jvm.MethodName) ({ cls := "LayeredDrawing$Order", name := "countAll", desc := "()I" } : Jvm.MethodName))),
  (746, (Jvm.Cond.instanceMethod ({ cls := "LayeredDrawing$Order", name := "countBetween", desc := "(II)I" } : Jvm.MethodName))),
  (747, (Jvm.Cond.selects "LayeredDrawing$Order" ({ cls := "LayeredDrawing$Order", name := "countBetween", desc := "(II)I" } : Jvm.MethodName) ({ cls := "LayeredDrawing$Order", name := "countBetween", desc := "(II)I" } : Jvm.MethodName))),
  (512, (Jvm.Cond.instanceMethod ({ cls := "LayeredDrawing$Order", name := "sweepThrough", desc := "(Z)V" } : Jvm.MethodName))),
  (513, (Jvm.Cond.selects "LayeredDrawing$Order" ({ cls := "LayeredDrawing$Order", name := "sweepThrough", desc := "(Z)V" } : Jvm.MethodName) ({ cls := "LayeredDrawing$Order", name := "sweepThrough", desc := "(Z)V" } : Jvm.MethodName))),
  (517, (Jvm.Cond.instanceMethod ({ cls := "LayeredDrawing$Order", name := "orderByWeights", desc := "(II)V" } : Jvm.MethodName))),
  (16, (Jvm.Cond.selects "LayeredDrawing$Order" ({ cls := "LayeredDrawing$Order", name := "orderByWeights", desc := "(II)V" } : Jvm.MethodName) ({ cls := "LayeredDrawing$Order", name := "orderByWeights", desc := "(II)V" } : Jvm.MethodName))),
  (521, (Jvm.Cond.instanceMethod ({ cls := "LayeredDrawing$Order", name := "weigh", desc := "(II)V" } : Jvm.MethodName))),
  (17, (Jvm.Cond.selects "LayeredDrawing$Order" ({ cls := "LayeredDrawing$Order", name := "weigh", desc := "(II)V" } : Jvm.MethodName) ({ cls := "LayeredDrawing$Order", name := "weigh", desc := "(II)V" } : Jvm.MethodName))),
  (526, (Jvm.Cond.instanceMethod ({ cls := "LayeredDrawing$Order", name := "isLighter", desc := "(II)Z" } : Jvm.MethodName))),
  (18, (Jvm.Cond.selects "LayeredDrawing$Order" ({ cls := "LayeredDrawing$Order", name := "isLighter", desc := "(II)Z" } : Jvm.MethodName) ({ cls := "LayeredDrawing$Order", name := "isLighter", desc := "(II)Z" } : Jvm.MethodName))),
  (545, (Jvm.Cond.instanceMethod ({ cls := "LayeredDrawing$Order", name := "siftVertex", desc := "(I)V" } : Jvm.MethodName))),
  (546, (Jvm.Cond.selects "LayeredDrawing$Order" ({ cls := "LayeredDrawing$Order", name := "siftVertex", desc := "(I)V" } : Jvm.MethodName) ({ cls := "LayeredDrawing$Order", name := "siftVertex", desc := "(I)V" } : Jvm.MethodName))),
  (541, (Jvm.Cond.instanceMethod ({ cls := "LayeredDrawing$Order", name := "siftEveryVertex", desc := "()V" } : Jvm.MethodName))),
  (542, (Jvm.Cond.selects "LayeredDrawing$Order" ({ cls := "LayeredDrawing$Order", name := "siftEveryVertex", desc := "()V" } : Jvm.MethodName) ({ cls := "LayeredDrawing$Order", name := "siftEveryVertex", desc := "()V" } : Jvm.MethodName))),
  (566, (Jvm.Cond.instanceMethod ({ cls := "LayeredDrawing$Order", name := "improve", desc := "(I)I" } : Jvm.MethodName))),
  (567, (Jvm.Cond.selects "LayeredDrawing$Order" ({ cls := "LayeredDrawing$Order", name := "improve", desc := "(I)I" } : Jvm.MethodName) ({ cls := "LayeredDrawing$Order", name := "improve", desc := "(I)I" } : Jvm.MethodName)))]
theorem pl_m48 : PL_m48.all (fun q => decide (lw_tbl[q.1]? = some q.2) && goodWord q.2) = true := by decide +kernel
theorem mf_49 : Jvm.Cond.instanceMethod (g_Y 49) ∈ g_good ∧ Jvm.Cond.selects (g_Y 49).cls (g_Y 49) (g_Y 49) ∈ g_good ∧ Jvm.Cond.initialized (g_Y 49).cls ∈ g_good ∧ Jvm.Cond.code (g_Y 49) (g_B 49) (g_T 49).2.2.1 (g_R 49) ∈ g_good ∧ ((g_Y 49).cls ≠ "java/lang/invoke/MethodHandle" ∧ (g_Y 49).cls ≠ "java/lang/invoke/VarHandle") ∧ (parseMethodDescriptor (g_Y 49).desc).map (fun d => d.parameters.length) = some 2 ∧ (g_T 49).1 < 100 ∧ ∃ (Tf : u_T) (N : Nat), g_Cl[(g_T 49).1]? = some ((g_Y 49).cls, Tf, N) := ⟨(in_good pl_m48 1 rfl), (in_good pl_m48 2 rfl), (in_good pl_m48 0 rfl), (in_goodc (List.mem_append_right _ (List.mem_append_right _ (List.mem_append_left _ (List.mem_of_getElem? (i := 43) rfl)))) rfl), ⟨by decide, by decide⟩, by decide +kernel, by decide +kernel, ct_3, 16, rfl⟩
theorem mf_50 : Jvm.Cond.instanceMethod (g_Y 50) ∈ g_good ∧ Jvm.Cond.selects (g_Y 50).cls (g_Y 50) (g_Y 50) ∈ g_good ∧ Jvm.Cond.initialized (g_Y 50).cls ∈ g_good ∧ Jvm.Cond.code (g_Y 50) (g_B 50) (g_T 50).2.2.1 (g_R 50) ∈ g_good ∧ ((g_Y 50).cls ≠ "java/lang/invoke/MethodHandle" ∧ (g_Y 50).cls ≠ "java/lang/invoke/VarHandle") ∧ (parseMethodDescriptor (g_Y 50).desc).map (fun d => d.parameters.length) = some 2 ∧ (g_T 50).1 < 100 ∧ ∃ (Tf : u_T) (N : Nat), g_Cl[(g_T 50).1]? = some ((g_Y 50).cls, Tf, N) := ⟨(in_good pl_m48 3 rfl), (in_good pl_m48 4 rfl), (in_good pl_m48 0 rfl), (in_goodc (List.mem_append_right _ (List.mem_append_right _ (List.mem_append_left _ (List.mem_of_getElem? (i := 39) rfl)))) rfl), ⟨by decide, by decide⟩, by decide +kernel, by decide +kernel, ct_3, 16, rfl⟩
theorem mf_51 : Jvm.Cond.instanceMethod (g_Y 51) ∈ g_good ∧ Jvm.Cond.selects (g_Y 51).cls (g_Y 51) (g_Y 51) ∈ g_good ∧ Jvm.Cond.initialized (g_Y 51).cls ∈ g_good ∧ Jvm.Cond.code (g_Y 51) (g_B 51) (g_T 51).2.2.1 (g_R 51) ∈ g_good ∧ ((g_Y 51).cls ≠ "java/lang/invoke/MethodHandle" ∧ (g_Y 51).cls ≠ "java/lang/invoke/VarHandle") ∧ (parseMethodDescriptor (g_Y 51).desc).map (fun d => d.parameters.length) = some 1 ∧ (g_T 51).1 < 100 ∧ ∃ (Tf : u_T) (N : Nat), g_Cl[(g_T 51).1]? = some ((g_Y 51).cls, Tf, N) := ⟨(in_good pl_m48 5 rfl), (in_good pl_m48 6 rfl), (in_good pl_m48 0 rfl), (in_goodc (List.mem_append_right _ (List.mem_append_left _ (List.mem_of_getElem? (i := 170) rfl))) rfl), ⟨by decide, by decide⟩, by decide +kernel, by decide +kernel, ct_3, 16, rfl⟩
theorem mf_52 : Jvm.Cond.instanceMethod (g_Y 52) ∈ g_good ∧ Jvm.Cond.selects (g_Y 52).cls (g_Y 52) (g_Y 52) ∈ g_good ∧ Jvm.Cond.initialized (g_Y 52).cls ∈ g_good ∧ Jvm.Cond.code (g_Y 52) (g_B 52) (g_T 52).2.2.1 (g_R 52) ∈ g_good ∧ ((g_Y 52).cls ≠ "java/lang/invoke/MethodHandle" ∧ (g_Y 52).cls ≠ "java/lang/invoke/VarHandle") ∧ (parseMethodDescriptor (g_Y 52).desc).map (fun d => d.parameters.length) = some 4 ∧ (g_T 52).1 < 100 ∧ ∃ (Tf : u_T) (N : Nat), g_Cl[(g_T 52).1]? = some ((g_Y 52).cls, Tf, N) := ⟨(in_good pl_m48 7 rfl), (in_good pl_m48 8 rfl), (in_good pl_m48 0 rfl), (in_goodc (List.mem_append_right _ (List.mem_append_left _ (List.mem_of_getElem? (i := 178) rfl))) rfl), ⟨by decide, by decide⟩, by decide +kernel, by decide +kernel, ct_3, 16, rfl⟩
theorem mf_53 : Jvm.Cond.instanceMethod (g_Y 53) ∈ g_good ∧ Jvm.Cond.selects (g_Y 53).cls (g_Y 53) (g_Y 53) ∈ g_good ∧ Jvm.Cond.initialized (g_Y 53).cls ∈ g_good ∧ Jvm.Cond.code (g_Y 53) (g_B 53) (g_T 53).2.2.1 (g_R 53) ∈ g_good ∧ ((g_Y 53).cls ≠ "java/lang/invoke/MethodHandle" ∧ (g_Y 53).cls ≠ "java/lang/invoke/VarHandle") ∧ (parseMethodDescriptor (g_Y 53).desc).map (fun d => d.parameters.length) = some 1 ∧ (g_T 53).1 < 100 ∧ ∃ (Tf : u_T) (N : Nat), g_Cl[(g_T 53).1]? = some ((g_Y 53).cls, Tf, N) := ⟨(in_good pl_m48 9 rfl), (in_good pl_m48 10 rfl), (in_good pl_m48 0 rfl), (in_goodc (List.mem_append_right _ (List.mem_append_right _ (List.mem_append_left _ (List.mem_of_getElem? (i := 47) rfl)))) rfl), ⟨by decide, by decide⟩, by decide +kernel, by decide +kernel, ct_3, 16, rfl⟩
theorem mf_54 : Jvm.Cond.instanceMethod (g_Y 54) ∈ g_good ∧ Jvm.Cond.selects (g_Y 54).cls (g_Y 54) (g_Y 54) ∈ g_good ∧ Jvm.Cond.initialized (g_Y 54).cls ∈ g_good ∧ Jvm.Cond.code (g_Y 54) (g_B 54) (g_T 54).2.2.1 (g_R 54) ∈ g_good ∧ ((g_Y 54).cls ≠ "java/lang/invoke/MethodHandle" ∧ (g_Y 54).cls ≠ "java/lang/invoke/VarHandle") ∧ (parseMethodDescriptor (g_Y 54).desc).map (fun d => d.parameters.length) = some 2 ∧ (g_T 54).1 < 100 ∧ ∃ (Tf : u_T) (N : Nat), g_Cl[(g_T 54).1]? = some ((g_Y 54).cls, Tf, N) := ⟨(in_good pl_m48 11 rfl), (in_good pl_m48 12 rfl), (in_good pl_m48 0 rfl), (in_goodc (List.mem_append_right _ (List.mem_append_left _ (List.mem_of_getElem? (i := 217) rfl))) rfl), ⟨by decide, by decide⟩, by decide +kernel, by decide +kernel, ct_3, 16, rfl⟩
theorem mf_55 : Jvm.Cond.instanceMethod (g_Y 55) ∈ g_good ∧ Jvm.Cond.selects (g_Y 55).cls (g_Y 55) (g_Y 55) ∈ g_good ∧ Jvm.Cond.initialized (g_Y 55).cls ∈ g_good ∧ Jvm.Cond.code (g_Y 55) (g_B 55) (g_T 55).2.2.1 (g_R 55) ∈ g_good ∧ ((g_Y 55).cls ≠ "java/lang/invoke/MethodHandle" ∧ (g_Y 55).cls ≠ "java/lang/invoke/VarHandle") ∧ (parseMethodDescriptor (g_Y 55).desc).map (fun d => d.parameters.length) = some 1 ∧ (g_T 55).1 < 100 ∧ ∃ (Tf : u_T) (N : Nat), g_Cl[(g_T 55).1]? = some ((g_Y 55).cls, Tf, N) := ⟨(in_good pl_m48 13 rfl), (in_good pl_m48 14 rfl), (in_good pl_m48 0 rfl), (in_goodc (List.mem_append_right _ (List.mem_append_left _ (List.mem_of_getElem? (i := 209) rfl))) rfl), ⟨by decide, by decide⟩, by decide +kernel, by decide +kernel, ct_3, 16, rfl⟩
theorem mf_56 : Jvm.Cond.instanceMethod (g_Y 56) ∈ g_good ∧ Jvm.Cond.selects (g_Y 56).cls (g_Y 56) (g_Y 56) ∈ g_good ∧ Jvm.Cond.initialized (g_Y 56).cls ∈ g_good ∧ Jvm.Cond.code (g_Y 56) (g_B 56) (g_T 56).2.2.1 (g_R 56) ∈ g_good ∧ ((g_Y 56).cls ≠ "java/lang/invoke/MethodHandle" ∧ (g_Y 56).cls ≠ "java/lang/invoke/VarHandle") ∧ (parseMethodDescriptor (g_Y 56).desc).map (fun d => d.parameters.length) = some 0 ∧ (g_T 56).1 < 100 ∧ ∃ (Tf : u_T) (N : Nat), g_Cl[(g_T 56).1]? = some ((g_Y 56).cls, Tf, N) := ⟨(in_good pl_m48 15 rfl), (in_good pl_m48 16 rfl), (in_good pl_m48 0 rfl), (in_goodc (List.mem_append_right _ (List.mem_append_left _ (List.mem_of_getElem? (i := 205) rfl))) rfl), ⟨by decide, by decide⟩, by decide +kernel, by decide +kernel, ct_3, 16, rfl⟩
theorem mf_57 : Jvm.Cond.instanceMethod (g_Y 57) ∈ g_good ∧ Jvm.Cond.selects (g_Y 57).cls (g_Y 57) (g_Y 57) ∈ g_good ∧ Jvm.Cond.initialized (g_Y 57).cls ∈ g_good ∧ Jvm.Cond.code (g_Y 57) (g_B 57) (g_T 57).2.2.1 (g_R 57) ∈ g_good ∧ ((g_Y 57).cls ≠ "java/lang/invoke/MethodHandle" ∧ (g_Y 57).cls ≠ "java/lang/invoke/VarHandle") ∧ (parseMethodDescriptor (g_Y 57).desc).map (fun d => d.parameters.length) = some 2 ∧ (g_T 57).1 < 100 ∧ ∃ (Tf : u_T) (N : Nat), g_Cl[(g_T 57).1]? = some ((g_Y 57).cls, Tf, N) := ⟨(in_good pl_m48 17 rfl), (in_good pl_m48 18 rfl), (in_good pl_m48 0 rfl), (in_goodc (List.mem_append_right _ (List.mem_append_right _ (List.mem_append_left _ (List.mem_of_getElem? (i := 235) rfl)))) rfl), ⟨by decide, by decide⟩, by decide +kernel, by decide +kernel, ct_3, 16, rfl⟩
theorem mf_58 : Jvm.Cond.instanceMethod (g_Y 58) ∈ g_good ∧ Jvm.Cond.selects (g_Y 58).cls (g_Y 58) (g_Y 58) ∈ g_good ∧ Jvm.Cond.initialized (g_Y 58).cls ∈ g_good ∧ Jvm.Cond.code (g_Y 58) (g_B 58) (g_T 58).2.2.1 (g_R 58) ∈ g_good ∧ ((g_Y 58).cls ≠ "java/lang/invoke/MethodHandle" ∧ (g_Y 58).cls ≠ "java/lang/invoke/VarHandle") ∧ (parseMethodDescriptor (g_Y 58).desc).map (fun d => d.parameters.length) = some 1 ∧ (g_T 58).1 < 100 ∧ ∃ (Tf : u_T) (N : Nat), g_Cl[(g_T 58).1]? = some ((g_Y 58).cls, Tf, N) := ⟨(in_good pl_m48 19 rfl), (in_good pl_m48 20 rfl), (in_good pl_m48 0 rfl), (in_goodc (List.mem_append_right _ (List.mem_append_right _ (List.mem_append_left _ (List.mem_of_getElem? (i := 1) rfl)))) rfl), ⟨by decide, by decide⟩, by decide +kernel, by decide +kernel, ct_3, 16, rfl⟩
theorem mf_59 : Jvm.Cond.instanceMethod (g_Y 59) ∈ g_good ∧ Jvm.Cond.selects (g_Y 59).cls (g_Y 59) (g_Y 59) ∈ g_good ∧ Jvm.Cond.initialized (g_Y 59).cls ∈ g_good ∧ Jvm.Cond.code (g_Y 59) (g_B 59) (g_T 59).2.2.1 (g_R 59) ∈ g_good ∧ ((g_Y 59).cls ≠ "java/lang/invoke/MethodHandle" ∧ (g_Y 59).cls ≠ "java/lang/invoke/VarHandle") ∧ (parseMethodDescriptor (g_Y 59).desc).map (fun d => d.parameters.length) = some 2 ∧ (g_T 59).1 < 100 ∧ ∃ (Tf : u_T) (N : Nat), g_Cl[(g_T 59).1]? = some ((g_Y 59).cls, Tf, N) := ⟨(in_good pl_m48 21 rfl), (in_good pl_m48 22 rfl), (in_good pl_m48 0 rfl), (in_goodc (List.mem_append_right _ (List.mem_append_right _ (List.mem_append_left _ (List.mem_of_getElem? (i := 5) rfl)))) rfl), ⟨by decide, by decide⟩, by decide +kernel, by decide +kernel, ct_3, 16, rfl⟩
theorem mf_60 : Jvm.Cond.instanceMethod (g_Y 60) ∈ g_good ∧ Jvm.Cond.selects (g_Y 60).cls (g_Y 60) (g_Y 60) ∈ g_good ∧ Jvm.Cond.initialized (g_Y 60).cls ∈ g_good ∧ Jvm.Cond.code (g_Y 60) (g_B 60) (g_T 60).2.2.1 (g_R 60) ∈ g_good ∧ ((g_Y 60).cls ≠ "java/lang/invoke/MethodHandle" ∧ (g_Y 60).cls ≠ "java/lang/invoke/VarHandle") ∧ (parseMethodDescriptor (g_Y 60).desc).map (fun d => d.parameters.length) = some 2 ∧ (g_T 60).1 < 100 ∧ ∃ (Tf : u_T) (N : Nat), g_Cl[(g_T 60).1]? = some ((g_Y 60).cls, Tf, N) := ⟨(in_good pl_m48 23 rfl), (in_good pl_m48 24 rfl), (in_good pl_m48 0 rfl), (in_goodc (List.mem_append_right _ (List.mem_append_right _ (List.mem_append_left _ (List.mem_of_getElem? (i := 9) rfl)))) rfl), ⟨by decide, by decide⟩, by decide +kernel, by decide +kernel, ct_3, 16, rfl⟩
theorem mf_61 : Jvm.Cond.instanceMethod (g_Y 61) ∈ g_good ∧ Jvm.Cond.selects (g_Y 61).cls (g_Y 61) (g_Y 61) ∈ g_good ∧ Jvm.Cond.initialized (g_Y 61).cls ∈ g_good ∧ Jvm.Cond.code (g_Y 61) (g_B 61) (g_T 61).2.2.1 (g_R 61) ∈ g_good ∧ ((g_Y 61).cls ≠ "java/lang/invoke/MethodHandle" ∧ (g_Y 61).cls ≠ "java/lang/invoke/VarHandle") ∧ (parseMethodDescriptor (g_Y 61).desc).map (fun d => d.parameters.length) = some 2 ∧ (g_T 61).1 < 100 ∧ ∃ (Tf : u_T) (N : Nat), g_Cl[(g_T 61).1]? = some ((g_Y 61).cls, Tf, N) := ⟨(in_good pl_m48 25 rfl), (in_good pl_m48 26 rfl), (in_good pl_m48 0 rfl), (in_goodc (List.mem_append_right _ (List.mem_append_right _ (List.mem_append_left _ (List.mem_of_getElem? (i := 14) rfl)))) rfl), ⟨by decide, by decide⟩, by decide +kernel, by decide +kernel, ct_3, 16, rfl⟩
theorem mf_62 : Jvm.Cond.instanceMethod (g_Y 62) ∈ g_good ∧ Jvm.Cond.selects (g_Y 62).cls (g_Y 62) (g_Y 62) ∈ g_good ∧ Jvm.Cond.initialized (g_Y 62).cls ∈ g_good ∧ Jvm.Cond.code (g_Y 62) (g_B 62) (g_T 62).2.2.1 (g_R 62) ∈ g_good ∧ ((g_Y 62).cls ≠ "java/lang/invoke/MethodHandle" ∧ (g_Y 62).cls ≠ "java/lang/invoke/VarHandle") ∧ (parseMethodDescriptor (g_Y 62).desc).map (fun d => d.parameters.length) = some 1 ∧ (g_T 62).1 < 100 ∧ ∃ (Tf : u_T) (N : Nat), g_Cl[(g_T 62).1]? = some ((g_Y 62).cls, Tf, N) := ⟨(in_good pl_m48 27 rfl), (in_good pl_m48 28 rfl), (in_good pl_m48 0 rfl), (in_goodc (List.mem_append_right _ (List.mem_append_right _ (List.mem_append_left _ (List.mem_of_getElem? (i := 34) rfl)))) rfl), ⟨by decide, by decide⟩, by decide +kernel, by decide +kernel, ct_3, 16, rfl⟩
theorem mf_63 : Jvm.Cond.instanceMethod (g_Y 63) ∈ g_good ∧ Jvm.Cond.selects (g_Y 63).cls (g_Y 63) (g_Y 63) ∈ g_good ∧ Jvm.Cond.initialized (g_Y 63).cls ∈ g_good ∧ Jvm.Cond.code (g_Y 63) (g_B 63) (g_T 63).2.2.1 (g_R 63) ∈ g_good ∧ ((g_Y 63).cls ≠ "java/lang/invoke/MethodHandle" ∧ (g_Y 63).cls ≠ "java/lang/invoke/VarHandle") ∧ (parseMethodDescriptor (g_Y 63).desc).map (fun d => d.parameters.length) = some 0 ∧ (g_T 63).1 < 100 ∧ ∃ (Tf : u_T) (N : Nat), g_Cl[(g_T 63).1]? = some ((g_Y 63).cls, Tf, N) := ⟨(in_good pl_m48 29 rfl), (in_good pl_m48 30 rfl), (in_good pl_m48 0 rfl), (in_goodc (List.mem_append_right _ (List.mem_append_right _ (List.mem_append_left _ (List.mem_of_getElem? (i := 30) rfl)))) rfl), ⟨by decide, by decide⟩, by decide +kernel, by decide +kernel, ct_3, 16, rfl⟩
theorem mf_64 : Jvm.Cond.instanceMethod (g_Y 64) ∈ g_good ∧ Jvm.Cond.selects (g_Y 64).cls (g_Y 64) (g_Y 64) ∈ g_good ∧ Jvm.Cond.initialized (g_Y 64).cls ∈ g_good ∧ Jvm.Cond.code (g_Y 64) (g_B 64) (g_T 64).2.2.1 (g_R 64) ∈ g_good ∧ ((g_Y 64).cls ≠ "java/lang/invoke/MethodHandle" ∧ (g_Y 64).cls ≠ "java/lang/invoke/VarHandle") ∧ (parseMethodDescriptor (g_Y 64).desc).map (fun d => d.parameters.length) = some 1 ∧ (g_T 64).1 < 100 ∧ ∃ (Tf : u_T) (N : Nat), g_Cl[(g_T 64).1]? = some ((g_Y 64).cls, Tf, N) := ⟨(in_good pl_m48 31 rfl), (in_good pl_m48 32 rfl), (in_good pl_m48 0 rfl), (in_goodc (List.mem_append_right _ (List.mem_append_right _ (List.mem_append_left _ (List.mem_of_getElem? (i := 55) rfl)))) rfl), ⟨by decide, by decide⟩, by decide +kernel, by decide +kernel, ct_3, 16, rfl⟩
def PL_m64 : List (Nat × Jvm.Cond) := [(40, (Jvm.Cond.initialized "LayeredDrawing$Slot")),
  (295, (Jvm.Cond.instanceMethod ({ cls := "LayeredDrawing$Slot", name := "<init>", desc := "()V" } : Jvm.MethodName))),
  (39, (Jvm.Cond.initialized "LayeredDrawing$Text")),
  (251, (Jvm.Cond.instanceMethod ({ cls := "LayeredDrawing$Text", name := "<init>", desc := "()V" } : Jvm.MethodName))),
  (821, (Jvm.Cond.instanceMethod ({ cls := "LayeredDrawing$Text", name := "put", desc := "(C)V" } : Jvm.MethodName))),
  (822, (Jvm.Cond.selects "LayeredDrawing$Text" ({ cls := "LayeredDrawing$Text", name := "put", desc := "(C)V" } : Jvm.MethodName) ({ cls := "LayeredDrawing$Text", name := "put", desc := "(C)V" } : Jvm.MethodName))),
  (829, (Jvm.Cond.instanceMethod ({ cls := "LayeredDrawing$Text", name := "findFault", desc := "(I)I" } : Jvm.MethodName))),
  (830, (Jvm.Cond.selects "LayeredDrawing$Text" ({ cls := "LayeredDrawing$Text", name := "findFault", desc := "(I)I" } : Jvm.MethodName) ({ cls := "LayeredDrawing$Text", name := "findFault", desc := "(I)I" } : Jvm.MethodName))),
  (833, (Jvm.Cond.instanceMethod ({ cls := "LayeredDrawing$Text", name := "readEdge", desc := "(I)Z" } : Jvm.MethodName))),
  (834, (Jvm.Cond.selects "LayeredDrawing$Text" ({ cls := "LayeredDrawing$Text", name := "readEdge", desc := "(I)Z" } : Jvm.MethodName) ({ cls := "LayeredDrawing$Text", name := "readEdge", desc := "(I)Z" } : Jvm.MethodName))),
  (838, (Jvm.Cond.instanceMethod ({ cls := "LayeredDrawing$Text", name := "readNumber", desc := "(II)I" } : Jvm.MethodName))),
  (29, (Jvm.Cond.selects "LayeredDrawing$Text" ({ cls := "LayeredDrawing$Text", name := "readNumber", desc := "(II)I" } : Jvm.MethodName) ({ cls := "LayeredDrawing$Text", name := "readNumber", desc := "(II)I" } : Jvm.MethodName))),
  (846, (Jvm.Cond.instanceMethod ({ cls := "LayeredDrawing$Text", name := "readOption", desc := "(CCCI)I" } : Jvm.MethodName))),
  (31, (Jvm.Cond.selects "LayeredDrawing$Text" ({ cls := "LayeredDrawing$Text", name := "readOption", desc := "(CCCI)I" } : Jvm.MethodName) ({ cls := "LayeredDrawing$Text", name := "readOption", desc := "(CCCI)I" } : Jvm.MethodName))),
  (842, (Jvm.Cond.instanceMethod ({ cls := "LayeredDrawing$Text", name := "readDigit", desc := "(CC)I" } : Jvm.MethodName))),
  (30, (Jvm.Cond.selects "LayeredDrawing$Text" ({ cls := "LayeredDrawing$Text", name := "readDigit", desc := "(CC)I" } : Jvm.MethodName) ({ cls := "LayeredDrawing$Text", name := "readDigit", desc := "(CC)I" } : Jvm.MethodName))),
  (850, (Jvm.Cond.instanceMethod ({ cls := "LayeredDrawing$Text", name := "take", desc := "(C)Z" } : Jvm.MethodName))),
  (32, (Jvm.Cond.selects "LayeredDrawing$Text" ({ cls := "LayeredDrawing$Text", name := "take", desc := "(C)Z" } : Jvm.MethodName) ({ cls := "LayeredDrawing$Text", name := "take", desc := "(C)Z" } : Jvm.MethodName))),
  (34, (Jvm.Cond.initialized "LayeredDrawing")),
  (47, (Jvm.Cond.instanceMethod ({ cls := "LayeredDrawing", name := "<init>", desc := "()V" } : Jvm.MethodName))),
  (659, (Jvm.Cond.instanceMethod ({ cls := "LayeredDrawing", name := "addNode", desc := "(II)I" } : Jvm.MethodName))),
  (660, (Jvm.Cond.selects "LayeredDrawing" ({ cls := "LayeredDrawing", name := "addNode", desc := "(II)I" } : Jvm.MethodName) ({ cls := "LayeredDrawing", name := "addNode", desc := "(II)I" } : Jvm.MethodName))),
  (667, (Jvm.Cond.instanceMethod ({ cls := "LayeredDrawing", name := "addEdge", desc := "(IIIII)I" } : Jvm.MethodName))),
  (668, (Jvm.Cond.selects "LayeredDrawing" ({ cls := "LayeredDrawing", name := "addEdge", desc := "(IIIII)I" } : Jvm.MethodName) ({ cls := "LayeredDrawing", name := "addEdge", desc := "(IIIII)I" } : Jvm.MethodName))),
  (344, (Jvm.Cond.instanceMethod ({ cls := "LayeredDrawing", name := "removeEdge", desc := "()I" } : Jvm.MethodName))),
  (345, (Jvm.Cond.selects "LayeredDrawing" ({ cls := "LayeredDrawing", name := "removeEdge", desc := "()I" } : Jvm.MethodName) ({ cls := "LayeredDrawing", name := "removeEdge", desc := "()I" } : Jvm.MethodName))),
  (401, (Jvm.Cond.instanceMethod ({ cls := "LayeredDrawing", name := "setGroup", desc := "(II)I" } : Jvm.MethodName))),
  (402, (Jvm.Cond.selects "LayeredDrawing" ({ cls := "LayeredDrawing", name := "setGroup", desc := "(II)I" } : Jvm.MethodName) ({ cls := "LayeredDrawing", name := "setGroup", desc := "(II)I" } : Jvm.MethodName))),
  (409, (Jvm.Cond.instanceMethod ({ cls := "LayeredDrawing", name := "edges", desc := "()I" } : Jvm.MethodName))),
  (410, (Jvm.Cond.selects "LayeredDrawing" ({ cls := "LayeredDrawing", name := "edges", desc := "()I" } : Jvm.MethodName) ({ cls := "LayeredDrawing", name := "edges", desc := "()I" } : Jvm.MethodName))),
  (689, (Jvm.Cond.instanceMethod ({ cls := "LayeredDrawing", name := "edge", desc := "(II)I" } : Jvm.MethodName))),
  (690, (Jvm.Cond.selects "LayeredDrawing" ({ cls := "LayeredDrawing", name := "edge", desc := "(II)I" } : Jvm.MethodName) ({ cls := "LayeredDrawing", name := "edge", desc := "(II)I" } : Jvm.MethodName)))]
theorem pl_m64 : PL_m64.all (fun q => decide (lw_tbl[q.1]? = some q.2) && goodWord q.2) = true := by decide +kernel
theorem mf_65 : Jvm.Cond.instanceMethod (g_Y 65) ∈ g_good ∧ (g_Y 65).name = "<init>" ∧ g_R 65 = none ∧ Jvm.Cond.initialized (g_Y 65).cls ∈ g_good ∧ Jvm.Cond.code (g_Y 65) (g_B 65) (g_T 65).2.2.1 (g_R 65) ∈ g_good ∧ ((g_Y 65).cls ≠ "java/lang/invoke/MethodHandle" ∧ (g_Y 65).cls ≠ "java/lang/invoke/VarHandle") ∧ (parseMethodDescriptor (g_Y 65).desc).map (fun d => d.parameters.length) = some 0 := ⟨(in_good pl_m64 1 rfl), rfl, rfl, (in_good pl_m64 0 rfl), (in_goodc (List.mem_append_right _ (List.mem_append_left _ (List.mem_of_getElem? (i := 23) rfl))) rfl), ⟨by decide, by decide⟩, by decide +kernel⟩
theorem mf_66 : Jvm.Cond.instanceMethod (g_Y 66) ∈ g_good ∧ (g_Y 66).name = "<init>" ∧ g_R 66 = none ∧ Jvm.Cond.initialized (g_Y 66).cls ∈ g_good ∧ Jvm.Cond.code (g_Y 66) (g_B 66) (g_T 66).2.2.1 (g_R 66) ∈ g_good ∧ ((g_Y 66).cls ≠ "java/lang/invoke/MethodHandle" ∧ (g_Y 66).cls ≠ "java/lang/invoke/VarHandle") ∧ (parseMethodDescriptor (g_Y 66).desc).map (fun d => d.parameters.length) = some 0 := ⟨(in_good pl_m64 3 rfl), rfl, rfl, (in_good pl_m64 2 rfl), (in_goodc (List.mem_append_left _ (List.mem_of_getElem? (i := 219) rfl)) rfl), ⟨by decide, by decide⟩, by decide +kernel⟩
theorem mf_67 : Jvm.Cond.instanceMethod (g_Y 67) ∈ g_good ∧ Jvm.Cond.selects (g_Y 67).cls (g_Y 67) (g_Y 67) ∈ g_good ∧ Jvm.Cond.initialized (g_Y 67).cls ∈ g_good ∧ Jvm.Cond.code (g_Y 67) (g_B 67) (g_T 67).2.2.1 (g_R 67) ∈ g_good ∧ ((g_Y 67).cls ≠ "java/lang/invoke/MethodHandle" ∧ (g_Y 67).cls ≠ "java/lang/invoke/VarHandle") ∧ (parseMethodDescriptor (g_Y 67).desc).map (fun d => d.parameters.length) = some 1 ∧ (g_T 67).1 < 100 ∧ ∃ (Tf : u_T) (N : Nat), g_Cl[(g_T 67).1]? = some ((g_Y 67).cls, Tf, N) := ⟨(in_good pl_m64 4 rfl), (in_good pl_m64 5 rfl), (in_good pl_m64 2 rfl), (in_goodc (List.mem_append_right _ (List.mem_append_right _ (List.mem_append_right _ (List.mem_of_getElem? (i := 70) rfl)))) rfl), ⟨by decide, by decide⟩, by decide +kernel, by decide +kernel, ct_5, 9, rfl⟩
theorem mf_68 : Jvm.Cond.instanceMethod (g_Y 68) ∈ g_good ∧ Jvm.Cond.selects (g_Y 68).cls (g_Y 68) (g_Y 68) ∈ g_good ∧ Jvm.Cond.initialized (g_Y 68).cls ∈ g_good ∧ Jvm.Cond.code (g_Y 68) (g_B 68) (g_T 68).2.2.1 (g_R 68) ∈ g_good ∧ ((g_Y 68).cls ≠ "java/lang/invoke/MethodHandle" ∧ (g_Y 68).cls ≠ "java/lang/invoke/VarHandle") ∧ (parseMethodDescriptor (g_Y 68).desc).map (fun d => d.parameters.length) = some 1 ∧ (g_T 68).1 < 100 ∧ ∃ (Tf : u_T) (N : Nat), g_Cl[(g_T 68).1]? = some ((g_Y 68).cls, Tf, N) := ⟨(in_good pl_m64 6 rfl), (in_good pl_m64 7 rfl), (in_good pl_m64 2 rfl), (in_goodc (List.mem_append_right _ (List.mem_append_right _ (List.mem_append_right _ (List.mem_of_getElem? (i := 78) rfl)))) rfl), ⟨by decide, by decide⟩, by decide +kernel, by decide +kernel, ct_5, 9, rfl⟩
theorem mf_69 : Jvm.Cond.instanceMethod (g_Y 69) ∈ g_good ∧ Jvm.Cond.selects (g_Y 69).cls (g_Y 69) (g_Y 69) ∈ g_good ∧ Jvm.Cond.initialized (g_Y 69).cls ∈ g_good ∧ Jvm.Cond.code (g_Y 69) (g_B 69) (g_T 69).2.2.1 (g_R 69) ∈ g_good ∧ ((g_Y 69).cls ≠ "java/lang/invoke/MethodHandle" ∧ (g_Y 69).cls ≠ "java/lang/invoke/VarHandle") ∧ (parseMethodDescriptor (g_Y 69).desc).map (fun d => d.parameters.length) = some 1 ∧ (g_T 69).1 < 100 ∧ ∃ (Tf : u_T) (N : Nat), g_Cl[(g_T 69).1]? = some ((g_Y 69).cls, Tf, N) := ⟨(in_good pl_m64 8 rfl), (in_good pl_m64 9 rfl), (in_good pl_m64 2 rfl), (in_goodc (List.mem_append_right _ (List.mem_append_right _ (List.mem_append_right _ (List.mem_of_getElem? (i := 82) rfl)))) rfl), ⟨by decide, by decide⟩, by decide +kernel, by decide +kernel, ct_5, 9, rfl⟩
theorem mf_70 : Jvm.Cond.instanceMethod (g_Y 70) ∈ g_good ∧ Jvm.Cond.selects (g_Y 70).cls (g_Y 70) (g_Y 70) ∈ g_good ∧ Jvm.Cond.initialized (g_Y 70).cls ∈ g_good ∧ Jvm.Cond.code (g_Y 70) (g_B 70) (g_T 70).2.2.1 (g_R 70) ∈ g_good ∧ ((g_Y 70).cls ≠ "java/lang/invoke/MethodHandle" ∧ (g_Y 70).cls ≠ "java/lang/invoke/VarHandle") ∧ (parseMethodDescriptor (g_Y 70).desc).map (fun d => d.parameters.length) = some 2 ∧ (g_T 70).1 < 100 ∧ ∃ (Tf : u_T) (N : Nat), g_Cl[(g_T 70).1]? = some ((g_Y 70).cls, Tf, N) := ⟨(in_good pl_m64 10 rfl), (in_good pl_m64 11 rfl), (in_good pl_m64 2 rfl), (in_goodc (List.mem_append_right _ (List.mem_append_right _ (List.mem_append_right _ (List.mem_of_getElem? (i := 86) rfl)))) rfl), ⟨by decide, by decide⟩, by decide +kernel, by decide +kernel, ct_5, 9, rfl⟩
theorem mf_71 : Jvm.Cond.instanceMethod (g_Y 71) ∈ g_good ∧ Jvm.Cond.selects (g_Y 71).cls (g_Y 71) (g_Y 71) ∈ g_good ∧ Jvm.Cond.initialized (g_Y 71).cls ∈ g_good ∧ Jvm.Cond.code (g_Y 71) (g_B 71) (g_T 71).2.2.1 (g_R 71) ∈ g_good ∧ ((g_Y 71).cls ≠ "java/lang/invoke/MethodHandle" ∧ (g_Y 71).cls ≠ "java/lang/invoke/VarHandle") ∧ (parseMethodDescriptor (g_Y 71).desc).map (fun d => d.parameters.length) = some 4 ∧ (g_T 71).1 < 100 ∧ ∃ (Tf : u_T) (N : Nat), g_Cl[(g_T 71).1]? = some ((g_Y 71).cls, Tf, N) := ⟨(in_good pl_m64 12 rfl), (in_good pl_m64 13 rfl), (in_good pl_m64 2 rfl), (in_goodc (List.mem_append_right _ (List.mem_append_right _ (List.mem_append_right _ (List.mem_of_getElem? (i := 94) rfl)))) rfl), ⟨by decide, by decide⟩, by decide +kernel, by decide +kernel, ct_5, 9, rfl⟩
theorem mf_72 : Jvm.Cond.instanceMethod (g_Y 72) ∈ g_good ∧ Jvm.Cond.selects (g_Y 72).cls (g_Y 72) (g_Y 72) ∈ g_good ∧ Jvm.Cond.initialized (g_Y 72).cls ∈ g_good ∧ Jvm.Cond.code (g_Y 72) (g_B 72) (g_T 72).2.2.1 (g_R 72) ∈ g_good ∧ ((g_Y 72).cls ≠ "java/lang/invoke/MethodHandle" ∧ (g_Y 72).cls ≠ "java/lang/invoke/VarHandle") ∧ (parseMethodDescriptor (g_Y 72).desc).map (fun d => d.parameters.length) = some 2 ∧ (g_T 72).1 < 100 ∧ ∃ (Tf : u_T) (N : Nat), g_Cl[(g_T 72).1]? = some ((g_Y 72).cls, Tf, N) := ⟨(in_good pl_m64 14 rfl), (in_good pl_m64 15 rfl), (in_good pl_m64 2 rfl), (in_goodc (List.mem_append_right _ (List.mem_append_right _ (List.mem_append_right _ (List.mem_of_getElem? (i := 90) rfl)))) rfl), ⟨by decide, by decide⟩, by decide +kernel, by decide +kernel, ct_5, 9, rfl⟩
theorem mf_73 : Jvm.Cond.instanceMethod (g_Y 73) ∈ g_good ∧ Jvm.Cond.selects (g_Y 73).cls (g_Y 73) (g_Y 73) ∈ g_good ∧ Jvm.Cond.initialized (g_Y 73).cls ∈ g_good ∧ Jvm.Cond.code (g_Y 73) (g_B 73) (g_T 73).2.2.1 (g_R 73) ∈ g_good ∧ ((g_Y 73).cls ≠ "java/lang/invoke/MethodHandle" ∧ (g_Y 73).cls ≠ "java/lang/invoke/VarHandle") ∧ (parseMethodDescriptor (g_Y 73).desc).map (fun d => d.parameters.length) = some 1 ∧ (g_T 73).1 < 100 ∧ ∃ (Tf : u_T) (N : Nat), g_Cl[(g_T 73).1]? = some ((g_Y 73).cls, Tf, N) := ⟨(in_good pl_m64 16 rfl), (in_good pl_m64 17 rfl), (in_good pl_m64 2 rfl), (in_goodc (List.mem_append_right _ (List.mem_append_right _ (List.mem_append_right _ (List.mem_of_getElem? (i := 98) rfl)))) rfl), ⟨by decide, by decide⟩, by decide +kernel, by decide +kernel, ct_5, 9, rfl⟩
theorem mf_74 : Jvm.Cond.instanceMethod (g_Y 74) ∈ g_good ∧ (g_Y 74).name = "<init>" ∧ g_R 74 = none ∧ Jvm.Cond.initialized (g_Y 74).cls ∈ g_good ∧ Jvm.Cond.code (g_Y 74) (g_B 74) (g_T 74).2.2.1 (g_R 74) ∈ g_good ∧ ((g_Y 74).cls ≠ "java/lang/invoke/MethodHandle" ∧ (g_Y 74).cls ≠ "java/lang/invoke/VarHandle") ∧ (parseMethodDescriptor (g_Y 74).desc).map (fun d => d.parameters.length) = some 0 := ⟨(in_good pl_m64 19 rfl), rfl, rfl, (in_good pl_m64 18 rfl), (in_goodc (List.mem_append_left _ (List.mem_of_getElem? (i := 15) rfl)) rfl), ⟨by decide, by decide⟩, by decide +kernel⟩
theorem mf_76 : Jvm.Cond.instanceMethod (g_Y 76) ∈ g_good ∧ Jvm.Cond.selects (g_Y 76).cls (g_Y 76) (g_Y 76) ∈ g_good ∧ Jvm.Cond.initialized (g_Y 76).cls ∈ g_good ∧ Jvm.Cond.code (g_Y 76) (g_B 76) (g_T 76).2.2.1 (g_R 76) ∈ g_good ∧ ((g_Y 76).cls ≠ "java/lang/invoke/MethodHandle" ∧ (g_Y 76).cls ≠ "java/lang/invoke/VarHandle") ∧ (parseMethodDescriptor (g_Y 76).desc).map (fun d => d.parameters.length) = some 2 ∧ (g_T 76).1 < 100 ∧ ∃ (Tf : u_T) (N : Nat), g_Cl[(g_T 76).1]? = some ((g_Y 76).cls, Tf, N) := ⟨(in_good pl_m64 20 rfl), (in_good pl_m64 21 rfl), (in_good pl_m64 18 rfl), (in_goodc (List.mem_append_right _ (List.mem_append_right _ (List.mem_append_left _ (List.mem_of_getElem? (i := 148) rfl)))) rfl), ⟨by decide, by decide⟩, by decide +kernel, by decide +kernel, ct_6, 7, rfl⟩
theorem mf_77 : Jvm.Cond.instanceMethod (g_Y 77) ∈ g_good ∧ Jvm.Cond.selects (g_Y 77).cls (g_Y 77) (g_Y 77) ∈ g_good ∧ Jvm.Cond.initialized (g_Y 77).cls ∈ g_good ∧ Jvm.Cond.code (g_Y 77) (g_B 77) (g_T 77).2.2.1 (g_R 77) ∈ g_good ∧ ((g_Y 77).cls ≠ "java/lang/invoke/MethodHandle" ∧ (g_Y 77).cls ≠ "java/lang/invoke/VarHandle") ∧ (parseMethodDescriptor (g_Y 77).desc).map (fun d => d.parameters.length) = some 5 ∧ (g_T 77).1 < 100 ∧ ∃ (Tf : u_T) (N : Nat), g_Cl[(g_T 77).1]? = some ((g_Y 77).cls, Tf, N) := ⟨(in_good pl_m64 22 rfl), (in_good pl_m64 23 rfl), (in_good pl_m64 18 rfl), (in_goodc (List.mem_append_right _ (List.mem_append_right _ (List.mem_append_left _ (List.mem_of_getElem? (i := 156) rfl)))) rfl), ⟨by decide, by decide⟩, by decide +kernel, by decide +kernel, ct_6, 7, rfl⟩
theorem mf_78 : Jvm.Cond.instanceMethod (g_Y 78) ∈ g_good ∧ Jvm.Cond.selects (g_Y 78).cls (g_Y 78) (g_Y 78) ∈ g_good ∧ Jvm.Cond.initialized (g_Y 78).cls ∈ g_good ∧ Jvm.Cond.code (g_Y 78) (g_B 78) (g_T 78).2.2.1 (g_R 78) ∈ g_good ∧ ((g_Y 78).cls ≠ "java/lang/invoke/MethodHandle" ∧ (g_Y 78).cls ≠ "java/lang/invoke/VarHandle") ∧ (parseMethodDescriptor (g_Y 78).desc).map (fun d => d.parameters.length) = some 0 ∧ (g_T 78).1 < 100 ∧ ∃ (Tf : u_T) (N : Nat), g_Cl[(g_T 78).1]? = some ((g_Y 78).cls, Tf, N) := ⟨(in_good pl_m64 24 rfl), (in_good pl_m64 25 rfl), (in_good pl_m64 18 rfl), (in_goodc (List.mem_append_right _ (List.mem_append_left _ (List.mem_of_getElem? (i := 73) rfl))) rfl), ⟨by decide, by decide⟩, by decide +kernel, by decide +kernel, ct_6, 7, rfl⟩
theorem mf_79 : Jvm.Cond.instanceMethod (g_Y 79) ∈ g_good ∧ Jvm.Cond.selects (g_Y 79).cls (g_Y 79) (g_Y 79) ∈ g_good ∧ Jvm.Cond.initialized (g_Y 79).cls ∈ g_good ∧ Jvm.Cond.code (g_Y 79) (g_B 79) (g_T 79).2.2.1 (g_R 79) ∈ g_good ∧ ((g_Y 79).cls ≠ "java/lang/invoke/MethodHandle" ∧ (g_Y 79).cls ≠ "java/lang/invoke/VarHandle") ∧ (parseMethodDescriptor (g_Y 79).desc).map (fun d => d.parameters.length) = some 2 ∧ (g_T 79).1 < 100 ∧ ∃ (Tf : u_T) (N : Nat), g_Cl[(g_T 79).1]? = some ((g_Y 79).cls, Tf, N) := ⟨(in_good pl_m64 26 rfl), (in_good pl_m64 27 rfl), (in_good pl_m64 18 rfl), (in_goodc (List.mem_append_right _ (List.mem_append_left _ (List.mem_of_getElem? (i := 130) rfl))) rfl), ⟨by decide, by decide⟩, by decide +kernel, by decide +kernel, ct_6, 7, rfl⟩
theorem mf_81 : Jvm.Cond.instanceMethod (g_Y 81) ∈ g_good ∧ Jvm.Cond.selects (g_Y 81).cls (g_Y 81) (g_Y 81) ∈ g_good ∧ Jvm.Cond.initialized (g_Y 81).cls ∈ g_good ∧ Jvm.Cond.code (g_Y 81) (g_B 81) (g_T 81).2.2.1 (g_R 81) ∈ g_good ∧ ((g_Y 81).cls ≠ "java/lang/invoke/MethodHandle" ∧ (g_Y 81).cls ≠ "java/lang/invoke/VarHandle") ∧ (parseMethodDescriptor (g_Y 81).desc).map (fun d => d.parameters.length) = some 0 ∧ (g_T 81).1 < 100 ∧ ∃ (Tf : u_T) (N : Nat), g_Cl[(g_T 81).1]? = some ((g_Y 81).cls, Tf, N) := ⟨(in_good pl_m64 28 rfl), (in_good pl_m64 29 rfl), (in_good pl_m64 18 rfl), (in_goodc (List.mem_append_right _ (List.mem_append_left _ (List.mem_of_getElem? (i := 138) rfl))) rfl), ⟨by decide, by decide⟩, by decide +kernel, by decide +kernel, ct_6, 7, rfl⟩
theorem mf_82 : Jvm.Cond.instanceMethod (g_Y 82) ∈ g_good ∧ Jvm.Cond.selects (g_Y 82).cls (g_Y 82) (g_Y 82) ∈ g_good ∧ Jvm.Cond.initialized (g_Y 82).cls ∈ g_good ∧ Jvm.Cond.code (g_Y 82) (g_B 82) (g_T 82).2.2.1 (g_R 82) ∈ g_good ∧ ((g_Y 82).cls ≠ "java/lang/invoke/MethodHandle" ∧ (g_Y 82).cls ≠ "java/lang/invoke/VarHandle") ∧ (parseMethodDescriptor (g_Y 82).desc).map (fun d => d.parameters.length) = some 2 ∧ (g_T 82).1 < 100 ∧ ∃ (Tf : u_T) (N : Nat), g_Cl[(g_T 82).1]? = some ((g_Y 82).cls, Tf, N) := ⟨(in_good pl_m64 30 rfl), (in_good pl_m64 31 rfl), (in_good pl_m64 18 rfl), (in_goodc (List.mem_append_right _ (List.mem_append_right _ (List.mem_append_left _ (List.mem_of_getElem? (i := 178) rfl)))) rfl), ⟨by decide, by decide⟩, by decide +kernel, by decide +kernel, ct_6, 7, rfl⟩
def PL_m80 : List (Nat × Jvm.Cond) := [(34, (Jvm.Cond.initialized "LayeredDrawing")),
  (693, (Jvm.Cond.instanceMethod ({ cls := "LayeredDrawing", name := "reversed", desc := "(I)I" } : Jvm.MethodName))),
  (694, (Jvm.Cond.selects "LayeredDrawing" ({ cls := "LayeredDrawing", name := "reversed", desc := "(I)I" } : Jvm.MethodName) ({ cls := "LayeredDrawing", name := "reversed", desc := "(I)I" } : Jvm.MethodName))),
  (697, (Jvm.Cond.instanceMethod ({ cls := "LayeredDrawing", name := "layerOf", desc := "(I)I" } : Jvm.MethodName))),
  (698, (Jvm.Cond.selects "LayeredDrawing" ({ cls := "LayeredDrawing", name := "layerOf", desc := "(I)I" } : Jvm.MethodName) ({ cls := "LayeredDrawing", name := "layerOf", desc := "(I)I" } : Jvm.MethodName))),
  (681, (Jvm.Cond.instanceMethod ({ cls := "LayeredDrawing", name := "lengthOf", desc := "(I)I" } : Jvm.MethodName))),
  (682, (Jvm.Cond.selects "LayeredDrawing" ({ cls := "LayeredDrawing", name := "lengthOf", desc := "(I)I" } : Jvm.MethodName) ({ cls := "LayeredDrawing", name := "lengthOf", desc := "(I)I" } : Jvm.MethodName))),
  (735, (Jvm.Cond.instanceMethod ({ cls := "LayeredDrawing", name := "totalLength", desc := "()I" } : Jvm.MethodName))),
  (736, (Jvm.Cond.selects "LayeredDrawing" ({ cls := "LayeredDrawing", name := "totalLength", desc := "()I" } : Jvm.MethodName) ({ cls := "LayeredDrawing", name := "totalLength", desc := "()I" } : Jvm.MethodName))),
  (413, (Jvm.Cond.instanceMethod ({ cls := "LayeredDrawing", name := "layers", desc := "()I" } : Jvm.MethodName))),
  (414, (Jvm.Cond.selects "LayeredDrawing" ({ cls := "LayeredDrawing", name := "layers", desc := "()I" } : Jvm.MethodName) ({ cls := "LayeredDrawing", name := "layers", desc := "()I" } : Jvm.MethodName))),
  (417, (Jvm.Cond.instanceMethod ({ cls := "LayeredDrawing", name := "layOut", desc := "()I" } : Jvm.MethodName))),
  (418, (Jvm.Cond.selects "LayeredDrawing" ({ cls := "LayeredDrawing", name := "layOut", desc := "()I" } : Jvm.MethodName) ({ cls := "LayeredDrawing", name := "layOut", desc := "()I" } : Jvm.MethodName))),
  (710, (Jvm.Cond.instanceMethod ({ cls := "LayeredDrawing", name := "vertices", desc := "(I)I" } : Jvm.MethodName))),
  (711, (Jvm.Cond.selects "LayeredDrawing" ({ cls := "LayeredDrawing", name := "vertices", desc := "(I)I" } : Jvm.MethodName) ({ cls := "LayeredDrawing", name := "vertices", desc := "(I)I" } : Jvm.MethodName))),
  (715, (Jvm.Cond.instanceMethod ({ cls := "LayeredDrawing", name := "vertex", desc := "(II)I" } : Jvm.MethodName))),
  (716, (Jvm.Cond.selects "LayeredDrawing" ({ cls := "LayeredDrawing", name := "vertex", desc := "(II)I" } : Jvm.MethodName) ({ cls := "LayeredDrawing", name := "vertex", desc := "(II)I" } : Jvm.MethodName))),
  (731, (Jvm.Cond.instanceMethod ({ cls := "LayeredDrawing", name := "placeOf", desc := "(I)I" } : Jvm.MethodName))),
  (732, (Jvm.Cond.selects "LayeredDrawing" ({ cls := "LayeredDrawing", name := "placeOf", desc := "(I)I" } : Jvm.MethodName) ({ cls := "LayeredDrawing", name := "placeOf", desc := "(I)I" } : Jvm.MethodName))),
  (701, (Jvm.Cond.instanceMethod ({ cls := "LayeredDrawing", name := "crossingsBelow", desc := "(I)I" } : Jvm.MethodName))),
  (702, (Jvm.Cond.selects "LayeredDrawing" ({ cls := "LayeredDrawing", name := "crossingsBelow", desc := "(I)I" } : Jvm.MethodName) ({ cls := "LayeredDrawing", name := "crossingsBelow", desc := "(I)I" } : Jvm.MethodName))),
  (472, (Jvm.Cond.instanceMethod ({ cls := "LayeredDrawing", name := "crossings", desc := "()I" } : Jvm.MethodName))),
  (473, (Jvm.Cond.selects "LayeredDrawing" ({ cls := "LayeredDrawing", name := "crossings", desc := "()I" } : Jvm.MethodName) ({ cls := "LayeredDrawing", name := "crossings", desc := "()I" } : Jvm.MethodName))),
  (742, (Jvm.Cond.instanceMethod ({ cls := "LayeredDrawing", name := "crossingsOf", desc := "(II)I" } : Jvm.MethodName))),
  (743, (Jvm.Cond.selects "LayeredDrawing" ({ cls := "LayeredDrawing", name := "crossingsOf", desc := "(II)I" } : Jvm.MethodName) ({ cls := "LayeredDrawing", name := "crossingsOf", desc := "(II)I" } : Jvm.MethodName))),
  (504, (Jvm.Cond.instanceMethod ({ cls := "LayeredDrawing", name := "sweep", desc := "(Z)I" } : Jvm.MethodName))),
  (505, (Jvm.Cond.selects "LayeredDrawing" ({ cls := "LayeredDrawing", name := "sweep", desc := "(Z)I" } : Jvm.MethodName) ({ cls := "LayeredDrawing", name := "sweep", desc := "(Z)I" } : Jvm.MethodName))),
  (861, (Jvm.Cond.instanceMethod ({ cls := "LayeredDrawing", name := "sift", desc := "(I)I" } : Jvm.MethodName))),
  (862, (Jvm.Cond.selects "LayeredDrawing" ({ cls := "LayeredDrawing", name := "sift", desc := "(I)I" } : Jvm.MethodName) ({ cls := "LayeredDrawing", name := "sift", desc := "(I)I" } : Jvm.MethodName))),
  (537, (Jvm.Cond.instanceMethod ({ cls := "LayeredDrawing", name := "siftAll", desc := "()I" } : Jvm.MethodName))),
  (538, (Jvm.Cond.selects "LayeredDrawing" ({ cls := "LayeredDrawing", name := "siftAll", desc := "()I" } : Jvm.MethodName) ({ cls := "LayeredDrawing", name := "siftAll", desc := "()I" } : Jvm.MethodName))),
  (562, (Jvm.Cond.instanceMethod ({ cls := "LayeredDrawing", name := "reduce", desc := "(I)I" } : Jvm.MethodName))),
  (563, (Jvm.Cond.selects "LayeredDrawing" ({ cls := "LayeredDrawing", name := "reduce", desc := "(I)I" } : Jvm.MethodName) ({ cls := "LayeredDrawing", name := "reduce", desc := "(I)I" } : Jvm.MethodName)))]
theorem pl_m80 : PL_m80.all (fun q => decide (lw_tbl[q.1]? = some q.2) && goodWord q.2) = true := by decide +kernel
theorem mf_83 : Jvm.Cond.instanceMethod (g_Y 83) ∈ g_good ∧ Jvm.Cond.selects (g_Y 83).cls (g_Y 83) (g_Y 83) ∈ g_good ∧ Jvm.Cond.initialized (g_Y 83).cls ∈ g_good ∧ Jvm.Cond.code (g_Y 83) (g_B 83) (g_T 83).2.2.1 (g_R 83) ∈ g_good ∧ ((g_Y 83).cls ≠ "java/lang/invoke/MethodHandle" ∧ (g_Y 83).cls ≠ "java/lang/invoke/VarHandle") ∧ (parseMethodDescriptor (g_Y 83).desc).map (fun d => d.parameters.length) = some 1 ∧ (g_T 83).1 < 100 ∧ ∃ (Tf : u_T) (N : Nat), g_Cl[(g_T 83).1]? = some ((g_Y 83).cls, Tf, N) := ⟨(in_good pl_m80 1 rfl), (in_good pl_m80 2 rfl), (in_good pl_m80 0 rfl), (in_goodc (List.mem_append_right _ (List.mem_append_right _ (List.mem_append_left _ (List.mem_of_getElem? (i := 182) rfl)))) rfl), ⟨by decide, by decide⟩, by decide +kernel, by decide +kernel, ct_6, 7, rfl⟩
theorem mf_85 : Jvm.Cond.instanceMethod (g_Y 85) ∈ g_good ∧ Jvm.Cond.selects (g_Y 85).cls (g_Y 85) (g_Y 85) ∈ g_good ∧ Jvm.Cond.initialized (g_Y 85).cls ∈ g_good ∧ Jvm.Cond.code (g_Y 85) (g_B 85) (g_T 85).2.2.1 (g_R 85) ∈ g_good ∧ ((g_Y 85).cls ≠ "java/lang/invoke/MethodHandle" ∧ (g_Y 85).cls ≠ "java/lang/invoke/VarHandle") ∧ (parseMethodDescriptor (g_Y 85).desc).map (fun d => d.parameters.length) = some 1 ∧ (g_T 85).1 < 100 ∧ ∃ (Tf : u_T) (N : Nat), g_Cl[(g_T 85).1]? = some ((g_Y 85).cls, Tf, N) := ⟨(in_good pl_m80 3 rfl), (in_good pl_m80 4 rfl), (in_good pl_m80 0 rfl), (in_goodc (List.mem_append_right _ (List.mem_append_right _ (List.mem_append_left _ (List.mem_of_getElem? (i := 186) rfl)))) rfl), ⟨by decide, by decide⟩, by decide +kernel, by decide +kernel, ct_6, 7, rfl⟩
theorem mf_86 : Jvm.Cond.instanceMethod (g_Y 86) ∈ g_good ∧ Jvm.Cond.selects (g_Y 86).cls (g_Y 86) (g_Y 86) ∈ g_good ∧ Jvm.Cond.initialized (g_Y 86).cls ∈ g_good ∧ Jvm.Cond.code (g_Y 86) (g_B 86) (g_T 86).2.2.1 (g_R 86) ∈ g_good ∧ ((g_Y 86).cls ≠ "java/lang/invoke/MethodHandle" ∧ (g_Y 86).cls ≠ "java/lang/invoke/VarHandle") ∧ (parseMethodDescriptor (g_Y 86).desc).map (fun d => d.parameters.length) = some 1 ∧ (g_T 86).1 < 100 ∧ ∃ (Tf : u_T) (N : Nat), g_Cl[(g_T 86).1]? = some ((g_Y 86).cls, Tf, N) := ⟨(in_good pl_m80 5 rfl), (in_good pl_m80 6 rfl), (in_good pl_m80 0 rfl), (in_goodc (List.mem_append_right _ (List.mem_append_right _ (List.mem_append_left _ (List.mem_of_getElem? (i := 170) rfl)))) rfl), ⟨by decide, by decide⟩, by decide +kernel, by decide +kernel, ct_6, 7, rfl⟩
theorem mf_87 : Jvm.Cond.instanceMethod (g_Y 87) ∈ g_good ∧ Jvm.Cond.selects (g_Y 87).cls (g_Y 87) (g_Y 87) ∈ g_good ∧ Jvm.Cond.initialized (g_Y 87).cls ∈ g_good ∧ Jvm.Cond.code (g_Y 87) (g_B 87) (g_T 87).2.2.1 (g_R 87) ∈ g_good ∧ ((g_Y 87).cls ≠ "java/lang/invoke/MethodHandle" ∧ (g_Y 87).cls ≠ "java/lang/invoke/VarHandle") ∧ (parseMethodDescriptor (g_Y 87).desc).map (fun d => d.parameters.length) = some 0 ∧ (g_T 87).1 < 100 ∧ ∃ (Tf : u_T) (N : Nat), g_Cl[(g_T 87).1]? = some ((g_Y 87).cls, Tf, N) := ⟨(in_good pl_m80 7 rfl), (in_good pl_m80 8 rfl), (in_good pl_m80 0 rfl), (in_goodc (List.mem_append_right _ (List.mem_append_right _ (List.mem_append_left _ (List.mem_of_getElem? (i := 224) rfl)))) rfl), ⟨by decide, by decide⟩, by decide +kernel, by decide +kernel, ct_6, 7, rfl⟩
theorem mf_88 : Jvm.Cond.instanceMethod (g_Y 88) ∈ g_good ∧ Jvm.Cond.selects (g_Y 88).cls (g_Y 88) (g_Y 88) ∈ g_good ∧ Jvm.Cond.initialized (g_Y 88).cls ∈ g_good ∧ Jvm.Cond.code (g_Y 88) (g_B 88) (g_T 88).2.2.1 (g_R 88) ∈ g_good ∧ ((g_Y 88).cls ≠ "java/lang/invoke/MethodHandle" ∧ (g_Y 88).cls ≠ "java/lang/invoke/VarHandle") ∧ (parseMethodDescriptor (g_Y 88).desc).map (fun d => d.parameters.length) = some 0 ∧ (g_T 88).1 < 100 ∧ ∃ (Tf : u_T) (N : Nat), g_Cl[(g_T 88).1]? = some ((g_Y 88).cls, Tf, N) := ⟨(in_good pl_m80 9 rfl), (in_good pl_m80 10 rfl), (in_good pl_m80 0 rfl), (in_goodc (List.mem_append_right _ (List.mem_append_left _ (List.mem_of_getElem? (i := 142) rfl))) rfl), ⟨by decide, by decide⟩, by decide +kernel, by decide +kernel, ct_6, 7, rfl⟩
theorem mf_89 : Jvm.Cond.instanceMethod (g_Y 89) ∈ g_good ∧ Jvm.Cond.selects (g_Y 89).cls (g_Y 89) (g_Y 89) ∈ g_good ∧ Jvm.Cond.initialized (g_Y 89).cls ∈ g_good ∧ Jvm.Cond.code (g_Y 89) (g_B 89) (g_T 89).2.2.1 (g_R 89) ∈ g_good ∧ ((g_Y 89).cls ≠ "java/lang/invoke/MethodHandle" ∧ (g_Y 89).cls ≠ "java/lang/invoke/VarHandle") ∧ (parseMethodDescriptor (g_Y 89).desc).map (fun d => d.parameters.length) = some 0 ∧ (g_T 89).1 < 100 ∧ ∃ (Tf : u_T) (N : Nat), g_Cl[(g_T 89).1]? = some ((g_Y 89).cls, Tf, N) := ⟨(in_good pl_m80 11 rfl), (in_good pl_m80 12 rfl), (in_good pl_m80 0 rfl), (in_goodc (List.mem_append_right _ (List.mem_append_left _ (List.mem_of_getElem? (i := 146) rfl))) rfl), ⟨by decide, by decide⟩, by decide +kernel, by decide +kernel, ct_6, 7, rfl⟩
theorem mf_90 : Jvm.Cond.instanceMethod (g_Y 90) ∈ g_good ∧ Jvm.Cond.selects (g_Y 90).cls (g_Y 90) (g_Y 90) ∈ g_good ∧ Jvm.Cond.initialized (g_Y 90).cls ∈ g_good ∧ Jvm.Cond.code (g_Y 90) (g_B 90) (g_T 90).2.2.1 (g_R 90) ∈ g_good ∧ ((g_Y 90).cls ≠ "java/lang/invoke/MethodHandle" ∧ (g_Y 90).cls ≠ "java/lang/invoke/VarHandle") ∧ (parseMethodDescriptor (g_Y 90).desc).map (fun d => d.parameters.length) = some 1 ∧ (g_T 90).1 < 100 ∧ ∃ (Tf : u_T) (N : Nat), g_Cl[(g_T 90).1]? = some ((g_Y 90).cls, Tf, N) := ⟨(in_good pl_m80 13 rfl), (in_good pl_m80 14 rfl), (in_good pl_m80 0 rfl), (in_goodc (List.mem_append_right _ (List.mem_append_right _ (List.mem_append_left _ (List.mem_of_getElem? (i := 199) rfl)))) rfl), ⟨by decide, by decide⟩, by decide +kernel, by decide +kernel, ct_6, 7, rfl⟩
theorem mf_91 : Jvm.Cond.instanceMethod (g_Y 91) ∈ g_good ∧ Jvm.Cond.selects (g_Y 91).cls (g_Y 91) (g_Y 91) ∈ g_good ∧ Jvm.Cond.initialized (g_Y 91).cls ∈ g_good ∧ Jvm.Cond.code (g_Y 91) (g_B 91) (g_T 91).2.2.1 (g_R 91) ∈ g_good ∧ ((g_Y 91).cls ≠ "java/lang/invoke/MethodHandle" ∧ (g_Y 91).cls ≠ "java/lang/invoke/VarHandle") ∧ (parseMethodDescriptor (g_Y 91).desc).map (fun d => d.parameters.length) = some 2 ∧ (g_T 91).1 < 100 ∧ ∃ (Tf : u_T) (N : Nat), g_Cl[(g_T 91).1]? = some ((g_Y 91).cls, Tf, N) := ⟨(in_good pl_m80 15 rfl), (in_good pl_m80 16 rfl), (in_good pl_m80 0 rfl), (in_goodc (List.mem_append_right _ (List.mem_append_right _ (List.mem_append_left _ (List.mem_of_getElem? (i := 204) rfl)))) rfl), ⟨by decide, by decide⟩, by decide +kernel, by decide +kernel, ct_6, 7, rfl⟩
theorem mf_92 : Jvm.Cond.instanceMethod (g_Y 92) ∈ g_good ∧ Jvm.Cond.selects (g_Y 92).cls (g_Y 92) (g_Y 92) ∈ g_good ∧ Jvm.Cond.initialized (g_Y 92).cls ∈ g_good ∧ Jvm.Cond.code (g_Y 92) (g_B 92) (g_T 92).2.2.1 (g_R 92) ∈ g_good ∧ ((g_Y 92).cls ≠ "java/lang/invoke/MethodHandle" ∧ (g_Y 92).cls ≠ "java/lang/invoke/VarHandle") ∧ (parseMethodDescriptor (g_Y 92).desc).map (fun d => d.parameters.length) = some 1 ∧ (g_T 92).1 < 100 ∧ ∃ (Tf : u_T) (N : Nat), g_Cl[(g_T 92).1]? = some ((g_Y 92).cls, Tf, N) := ⟨(in_good pl_m80 17 rfl), (in_good pl_m80 18 rfl), (in_good pl_m80 0 rfl), (in_goodc (List.mem_append_right _ (List.mem_append_right _ (List.mem_append_left _ (List.mem_of_getElem? (i := 220) rfl)))) rfl), ⟨by decide, by decide⟩, by decide +kernel, by decide +kernel, ct_6, 7, rfl⟩
theorem mf_93 : Jvm.Cond.instanceMethod (g_Y 93) ∈ g_good ∧ Jvm.Cond.selects (g_Y 93).cls (g_Y 93) (g_Y 93) ∈ g_good ∧ Jvm.Cond.initialized (g_Y 93).cls ∈ g_good ∧ Jvm.Cond.code (g_Y 93) (g_B 93) (g_T 93).2.2.1 (g_R 93) ∈ g_good ∧ ((g_Y 93).cls ≠ "java/lang/invoke/MethodHandle" ∧ (g_Y 93).cls ≠ "java/lang/invoke/VarHandle") ∧ (parseMethodDescriptor (g_Y 93).desc).map (fun d => d.parameters.length) = some 1 ∧ (g_T 93).1 < 100 ∧ ∃ (Tf : u_T) (N : Nat), g_Cl[(g_T 93).1]? = some ((g_Y 93).cls, Tf, N) := ⟨(in_good pl_m80 19 rfl), (in_good pl_m80 20 rfl), (in_good pl_m80 0 rfl), (in_goodc (List.mem_append_right _ (List.mem_append_right _ (List.mem_append_left _ (List.mem_of_getElem? (i := 190) rfl)))) rfl), ⟨by decide, by decide⟩, by decide +kernel, by decide +kernel, ct_6, 7, rfl⟩
theorem mf_94 : Jvm.Cond.instanceMethod (g_Y 94) ∈ g_good ∧ Jvm.Cond.selects (g_Y 94).cls (g_Y 94) (g_Y 94) ∈ g_good ∧ Jvm.Cond.initialized (g_Y 94).cls ∈ g_good ∧ Jvm.Cond.code (g_Y 94) (g_B 94) (g_T 94).2.2.1 (g_R 94) ∈ g_good ∧ ((g_Y 94).cls ≠ "java/lang/invoke/MethodHandle" ∧ (g_Y 94).cls ≠ "java/lang/invoke/VarHandle") ∧ (parseMethodDescriptor (g_Y 94).desc).map (fun d => d.parameters.length) = some 0 ∧ (g_T 94).1 < 100 ∧ ∃ (Tf : u_T) (N : Nat), g_Cl[(g_T 94).1]? = some ((g_Y 94).cls, Tf, N) := ⟨(in_good pl_m80 21 rfl), (in_good pl_m80 22 rfl), (in_good pl_m80 0 rfl), (in_goodc (List.mem_append_right _ (List.mem_append_left _ (List.mem_of_getElem? (i := 201) rfl))) rfl), ⟨by decide, by decide⟩, by decide +kernel, by decide +kernel, ct_6, 7, rfl⟩
theorem mf_95 : Jvm.Cond.instanceMethod (g_Y 95) ∈ g_good ∧ Jvm.Cond.selects (g_Y 95).cls (g_Y 95) (g_Y 95) ∈ g_good ∧ Jvm.Cond.initialized (g_Y 95).cls ∈ g_good ∧ Jvm.Cond.code (g_Y 95) (g_B 95) (g_T 95).2.2.1 (g_R 95) ∈ g_good ∧ ((g_Y 95).cls ≠ "java/lang/invoke/MethodHandle" ∧ (g_Y 95).cls ≠ "java/lang/invoke/VarHandle") ∧ (parseMethodDescriptor (g_Y 95).desc).map (fun d => d.parameters.length) = some 2 ∧ (g_T 95).1 < 100 ∧ ∃ (Tf : u_T) (N : Nat), g_Cl[(g_T 95).1]? = some ((g_Y 95).cls, Tf, N) := ⟨(in_good pl_m80 23 rfl), (in_good pl_m80 24 rfl), (in_good pl_m80 0 rfl), (in_goodc (List.mem_append_right _ (List.mem_append_right _ (List.mem_append_left _ (List.mem_of_getElem? (i := 231) rfl)))) rfl), ⟨by decide, by decide⟩, by decide +kernel, by decide +kernel, ct_6, 7, rfl⟩
theorem mf_96 : Jvm.Cond.instanceMethod (g_Y 96) ∈ g_good ∧ Jvm.Cond.selects (g_Y 96).cls (g_Y 96) (g_Y 96) ∈ g_good ∧ Jvm.Cond.initialized (g_Y 96).cls ∈ g_good ∧ Jvm.Cond.code (g_Y 96) (g_B 96) (g_T 96).2.2.1 (g_R 96) ∈ g_good ∧ ((g_Y 96).cls ≠ "java/lang/invoke/MethodHandle" ∧ (g_Y 96).cls ≠ "java/lang/invoke/VarHandle") ∧ (parseMethodDescriptor (g_Y 96).desc).map (fun d => d.parameters.length) = some 1 ∧ (g_T 96).1 < 100 ∧ ∃ (Tf : u_T) (N : Nat), g_Cl[(g_T 96).1]? = some ((g_Y 96).cls, Tf, N) := ⟨(in_good pl_m80 25 rfl), (in_good pl_m80 26 rfl), (in_good pl_m80 0 rfl), (in_goodc (List.mem_append_right _ (List.mem_append_left _ (List.mem_of_getElem? (i := 233) rfl))) rfl), ⟨by decide, by decide⟩, by decide +kernel, by decide +kernel, ct_6, 7, rfl⟩
theorem mf_97 : Jvm.Cond.instanceMethod (g_Y 97) ∈ g_good ∧ Jvm.Cond.selects (g_Y 97).cls (g_Y 97) (g_Y 97) ∈ g_good ∧ Jvm.Cond.initialized (g_Y 97).cls ∈ g_good ∧ Jvm.Cond.code (g_Y 97) (g_B 97) (g_T 97).2.2.1 (g_R 97) ∈ g_good ∧ ((g_Y 97).cls ≠ "java/lang/invoke/MethodHandle" ∧ (g_Y 97).cls ≠ "java/lang/invoke/VarHandle") ∧ (parseMethodDescriptor (g_Y 97).desc).map (fun d => d.parameters.length) = some 1 ∧ (g_T 97).1 < 100 ∧ ∃ (Tf : u_T) (N : Nat), g_Cl[(g_T 97).1]? = some ((g_Y 97).cls, Tf, N) := ⟨(in_good pl_m80 27 rfl), (in_good pl_m80 28 rfl), (in_good pl_m80 0 rfl), (in_goodc (List.mem_append_right _ (List.mem_append_right _ (List.mem_append_right _ (List.mem_of_getElem? (i := 110) rfl)))) rfl), ⟨by decide, by decide⟩, by decide +kernel, by decide +kernel, ct_6, 7, rfl⟩
theorem mf_98 : Jvm.Cond.instanceMethod (g_Y 98) ∈ g_good ∧ Jvm.Cond.selects (g_Y 98).cls (g_Y 98) (g_Y 98) ∈ g_good ∧ Jvm.Cond.initialized (g_Y 98).cls ∈ g_good ∧ Jvm.Cond.code (g_Y 98) (g_B 98) (g_T 98).2.2.1 (g_R 98) ∈ g_good ∧ ((g_Y 98).cls ≠ "java/lang/invoke/MethodHandle" ∧ (g_Y 98).cls ≠ "java/lang/invoke/VarHandle") ∧ (parseMethodDescriptor (g_Y 98).desc).map (fun d => d.parameters.length) = some 0 ∧ (g_T 98).1 < 100 ∧ ∃ (Tf : u_T) (N : Nat), g_Cl[(g_T 98).1]? = some ((g_Y 98).cls, Tf, N) := ⟨(in_good pl_m80 29 rfl), (in_good pl_m80 30 rfl), (in_good pl_m80 0 rfl), (in_goodc (List.mem_append_right _ (List.mem_append_right _ (List.mem_append_left _ (List.mem_of_getElem? (i := 26) rfl)))) rfl), ⟨by decide, by decide⟩, by decide +kernel, by decide +kernel, ct_6, 7, rfl⟩
theorem mf_99 : Jvm.Cond.instanceMethod (g_Y 99) ∈ g_good ∧ Jvm.Cond.selects (g_Y 99).cls (g_Y 99) (g_Y 99) ∈ g_good ∧ Jvm.Cond.initialized (g_Y 99).cls ∈ g_good ∧ Jvm.Cond.code (g_Y 99) (g_B 99) (g_T 99).2.2.1 (g_R 99) ∈ g_good ∧ ((g_Y 99).cls ≠ "java/lang/invoke/MethodHandle" ∧ (g_Y 99).cls ≠ "java/lang/invoke/VarHandle") ∧ (parseMethodDescriptor (g_Y 99).desc).map (fun d => d.parameters.length) = some 1 ∧ (g_T 99).1 < 100 ∧ ∃ (Tf : u_T) (N : Nat), g_Cl[(g_T 99).1]? = some ((g_Y 99).cls, Tf, N) := ⟨(in_good pl_m80 31 rfl), (in_good pl_m80 32 rfl), (in_good pl_m80 0 rfl), (in_goodc (List.mem_append_right _ (List.mem_append_right _ (List.mem_append_left _ (List.mem_of_getElem? (i := 51) rfl)))) rfl), ⟨by decide, by decide⟩, by decide +kernel, by decide +kernel, ct_6, 7, rfl⟩
def PL_m96 : List (Nat × Jvm.Cond) := [(34, (Jvm.Cond.initialized "LayeredDrawing")),
  (866, (Jvm.Cond.instanceMethod ({ cls := "LayeredDrawing", name := "exchange", desc := "(II)I" } : Jvm.MethodName))),
  (867, (Jvm.Cond.selects "LayeredDrawing" ({ cls := "LayeredDrawing", name := "exchange", desc := "(II)I" } : Jvm.MethodName) ({ cls := "LayeredDrawing", name := "exchange", desc := "(II)I" } : Jvm.MethodName))),
  (577, (Jvm.Cond.instanceMethod ({ cls := "LayeredDrawing", name := "align", desc := "()I" } : Jvm.MethodName))),
  (578, (Jvm.Cond.selects "LayeredDrawing" ({ cls := "LayeredDrawing", name := "align", desc := "()I" } : Jvm.MethodName) ({ cls := "LayeredDrawing", name := "align", desc := "()I" } : Jvm.MethodName))),
  (723, (Jvm.Cond.instanceMethod ({ cls := "LayeredDrawing", name := "left", desc := "(I)I" } : Jvm.MethodName))),
  (724, (Jvm.Cond.selects "LayeredDrawing" ({ cls := "LayeredDrawing", name := "left", desc := "(I)I" } : Jvm.MethodName) ({ cls := "LayeredDrawing", name := "left", desc := "(I)I" } : Jvm.MethodName))),
  (606, (Jvm.Cond.instanceMethod ({ cls := "LayeredDrawing", name := "width", desc := "()I" } : Jvm.MethodName))),
  (607, (Jvm.Cond.selects "LayeredDrawing" ({ cls := "LayeredDrawing", name := "width", desc := "()I" } : Jvm.MethodName) ({ cls := "LayeredDrawing", name := "width", desc := "()I" } : Jvm.MethodName))),
  (768, (Jvm.Cond.instanceMethod ({ cls := "LayeredDrawing", name := "spread", desc := "()I" } : Jvm.MethodName))),
  (769, (Jvm.Cond.selects "LayeredDrawing" ({ cls := "LayeredDrawing", name := "spread", desc := "()I" } : Jvm.MethodName) ({ cls := "LayeredDrawing", name := "spread", desc := "()I" } : Jvm.MethodName))),
  (760, (Jvm.Cond.instanceMethod ({ cls := "LayeredDrawing", name := "straight", desc := "(I)I" } : Jvm.MethodName))),
  (761, (Jvm.Cond.selects "LayeredDrawing" ({ cls := "LayeredDrawing", name := "straight", desc := "(I)I" } : Jvm.MethodName) ({ cls := "LayeredDrawing", name := "straight", desc := "(I)I" } : Jvm.MethodName))),
  (776, (Jvm.Cond.instanceMethod ({ cls := "LayeredDrawing", name := "border", desc := "(II)I" } : Jvm.MethodName))),
  (777, (Jvm.Cond.selects "LayeredDrawing" ({ cls := "LayeredDrawing", name := "border", desc := "(II)I" } : Jvm.MethodName) ({ cls := "LayeredDrawing", name := "border", desc := "(II)I" } : Jvm.MethodName))),
  (795, (Jvm.Cond.instanceMethod ({ cls := "LayeredDrawing", name := "intruders", desc := "(I)I" } : Jvm.MethodName))),
  (796, (Jvm.Cond.selects "LayeredDrawing" ({ cls := "LayeredDrawing", name := "intruders", desc := "(I)I" } : Jvm.MethodName) ({ cls := "LayeredDrawing", name := "intruders", desc := "(I)I" } : Jvm.MethodName))),
  (817, (Jvm.Cond.instanceMethod ({ cls := "LayeredDrawing", name := "append", desc := "(I)I" } : Jvm.MethodName))),
  (818, (Jvm.Cond.selects "LayeredDrawing" ({ cls := "LayeredDrawing", name := "append", desc := "(I)I" } : Jvm.MethodName) ({ cls := "LayeredDrawing", name := "append", desc := "(I)I" } : Jvm.MethodName))),
  (810, (Jvm.Cond.instanceMethod ({ cls := "LayeredDrawing", name := "clearText", desc := "()I" } : Jvm.MethodName))),
  (811, (Jvm.Cond.selects "LayeredDrawing" ({ cls := "LayeredDrawing", name := "clearText", desc := "()I" } : Jvm.MethodName) ({ cls := "LayeredDrawing", name := "clearText", desc := "()I" } : Jvm.MethodName))),
  (825, (Jvm.Cond.instanceMethod ({ cls := "LayeredDrawing", name := "faultPosition", desc := "()I" } : Jvm.MethodName))),
  (826, (Jvm.Cond.selects "LayeredDrawing" ({ cls := "LayeredDrawing", name := "faultPosition", desc := "()I" } : Jvm.MethodName) ({ cls := "LayeredDrawing", name := "faultPosition", desc := "()I" } : Jvm.MethodName))),
  (853, (Jvm.Cond.instanceMethod ({ cls := "LayeredDrawing", name := "read", desc := "()I" } : Jvm.MethodName))),
  (854, (Jvm.Cond.selects "LayeredDrawing" ({ cls := "LayeredDrawing", name := "read", desc := "()I" } : Jvm.MethodName) ({ cls := "LayeredDrawing", name := "read", desc := "()I" } : Jvm.MethodName))),
  (610, (Jvm.Cond.instanceMethod ({ cls := "LayeredDrawing", name := "keep", desc := "(I)I" } : Jvm.MethodName))),
  (611, (Jvm.Cond.selects "LayeredDrawing" ({ cls := "LayeredDrawing", name := "keep", desc := "(I)I" } : Jvm.MethodName) ({ cls := "LayeredDrawing", name := "keep", desc := "(I)I" } : Jvm.MethodName))),
  (624, (Jvm.Cond.instanceMethod ({ cls := "LayeredDrawing", name := "restore", desc := "(I)I" } : Jvm.MethodName))),
  (625, (Jvm.Cond.selects "LayeredDrawing" ({ cls := "LayeredDrawing", name := "restore", desc := "(I)I" } : Jvm.MethodName) ({ cls := "LayeredDrawing", name := "restore", desc := "(I)I" } : Jvm.MethodName))),
  (629, (Jvm.Cond.instanceMethod ({ cls := "LayeredDrawing", name := "checksum", desc := "()J" } : Jvm.MethodName))),
  (630, (Jvm.Cond.selects "LayeredDrawing" ({ cls := "LayeredDrawing", name := "checksum", desc := "()J" } : Jvm.MethodName) ({ cls := "LayeredDrawing", name := "checksum", desc := "()J" } : Jvm.MethodName))),
  (637, (Jvm.Cond.instanceMethod ({ cls := "LayeredDrawing", name := "withDrawing", desc := "(J)J" } : Jvm.MethodName))),
  (24, (Jvm.Cond.selects "LayeredDrawing" ({ cls := "LayeredDrawing", name := "withDrawing", desc := "(J)J" } : Jvm.MethodName) ({ cls := "LayeredDrawing", name := "withDrawing", desc := "(J)J" } : Jvm.MethodName)))]
theorem pl_m96 : PL_m96.all (fun q => decide (lw_tbl[q.1]? = some q.2) && goodWord q.2) = true := by decide +kernel
theorem mf_100 : Jvm.Cond.instanceMethod (g_Y 100) ∈ g_good ∧ Jvm.Cond.selects (g_Y 100).cls (g_Y 100) (g_Y 100) ∈ g_good ∧ Jvm.Cond.initialized (g_Y 100).cls ∈ g_good ∧ Jvm.Cond.code (g_Y 100) (g_B 100) (g_T 100).2.2.1 (g_R 100) ∈ g_good ∧ ((g_Y 100).cls ≠ "java/lang/invoke/MethodHandle" ∧ (g_Y 100).cls ≠ "java/lang/invoke/VarHandle") ∧ (parseMethodDescriptor (g_Y 100).desc).map (fun d => d.parameters.length) = some 2 ∧ (g_T 100).1 < 100 ∧ ∃ (Tf : u_T) (N : Nat), g_Cl[(g_T 100).1]? = some ((g_Y 100).cls, Tf, N) := ⟨(in_good pl_m96 1 rfl), (in_good pl_m96 2 rfl), (in_good pl_m96 0 rfl), (in_goodc (List.mem_append_right _ (List.mem_append_right _ (List.mem_append_right _ (List.mem_of_getElem? (i := 115) rfl)))) rfl), ⟨by decide, by decide⟩, by decide +kernel, by decide +kernel, ct_6, 7, rfl⟩
theorem mf_101 : Jvm.Cond.instanceMethod (g_Y 101) ∈ g_good ∧ Jvm.Cond.selects (g_Y 101).cls (g_Y 101) (g_Y 101) ∈ g_good ∧ Jvm.Cond.initialized (g_Y 101).cls ∈ g_good ∧ Jvm.Cond.code (g_Y 101) (g_B 101) (g_T 101).2.2.1 (g_R 101) ∈ g_good ∧ ((g_Y 101).cls ≠ "java/lang/invoke/MethodHandle" ∧ (g_Y 101).cls ≠ "java/lang/invoke/VarHandle") ∧ (parseMethodDescriptor (g_Y 101).desc).map (fun d => d.parameters.length) = some 0 ∧ (g_T 101).1 < 100 ∧ ∃ (Tf : u_T) (N : Nat), g_Cl[(g_T 101).1]? = some ((g_Y 101).cls, Tf, N) := ⟨(in_good pl_m96 3 rfl), (in_good pl_m96 4 rfl), (in_good pl_m96 0 rfl), (in_goodc (List.mem_append_right _ (List.mem_append_right _ (List.mem_append_left _ (List.mem_of_getElem? (i := 66) rfl)))) rfl), ⟨by decide, by decide⟩, by decide +kernel, by decide +kernel, ct_6, 7, rfl⟩
theorem mf_102 : Jvm.Cond.instanceMethod (g_Y 102) ∈ g_good ∧ Jvm.Cond.selects (g_Y 102).cls (g_Y 102) (g_Y 102) ∈ g_good ∧ Jvm.Cond.initialized (g_Y 102).cls ∈ g_good ∧ Jvm.Cond.code (g_Y 102) (g_B 102) (g_T 102).2.2.1 (g_R 102) ∈ g_good ∧ ((g_Y 102).cls ≠ "java/lang/invoke/MethodHandle" ∧ (g_Y 102).cls ≠ "java/lang/invoke/VarHandle") ∧ (parseMethodDescriptor (g_Y 102).desc).map (fun d => d.parameters.length) = some 1 ∧ (g_T 102).1 < 100 ∧ ∃ (Tf : u_T) (N : Nat), g_Cl[(g_T 102).1]? = some ((g_Y 102).cls, Tf, N) := ⟨(in_good pl_m96 5 rfl), (in_good pl_m96 6 rfl), (in_good pl_m96 0 rfl), (in_goodc (List.mem_append_right _ (List.mem_append_right _ (List.mem_append_left _ (List.mem_of_getElem? (i := 212) rfl)))) rfl), ⟨by decide, by decide⟩, by decide +kernel, by decide +kernel, ct_6, 7, rfl⟩
theorem mf_103 : Jvm.Cond.instanceMethod (g_Y 103) ∈ g_good ∧ Jvm.Cond.selects (g_Y 103).cls (g_Y 103) (g_Y 103) ∈ g_good ∧ Jvm.Cond.initialized (g_Y 103).cls ∈ g_good ∧ Jvm.Cond.code (g_Y 103) (g_B 103) (g_T 103).2.2.1 (g_R 103) ∈ g_good ∧ ((g_Y 103).cls ≠ "java/lang/invoke/MethodHandle" ∧ (g_Y 103).cls ≠ "java/lang/invoke/VarHandle") ∧ (parseMethodDescriptor (g_Y 103).desc).map (fun d => d.parameters.length) = some 0 ∧ (g_T 103).1 < 100 ∧ ∃ (Tf : u_T) (N : Nat), g_Cl[(g_T 103).1]? = some ((g_Y 103).cls, Tf, N) := ⟨(in_good pl_m96 7 rfl), (in_good pl_m96 8 rfl), (in_good pl_m96 0 rfl), (in_goodc (List.mem_append_right _ (List.mem_append_right _ (List.mem_append_left _ (List.mem_of_getElem? (i := 95) rfl)))) rfl), ⟨by decide, by decide⟩, by decide +kernel, by decide +kernel, ct_6, 7, rfl⟩
theorem mf_104 : Jvm.Cond.instanceMethod (g_Y 104) ∈ g_good ∧ Jvm.Cond.selects (g_Y 104).cls (g_Y 104) (g_Y 104) ∈ g_good ∧ Jvm.Cond.initialized (g_Y 104).cls ∈ g_good ∧ Jvm.Cond.code (g_Y 104) (g_B 104) (g_T 104).2.2.1 (g_R 104) ∈ g_good ∧ ((g_Y 104).cls ≠ "java/lang/invoke/MethodHandle" ∧ (g_Y 104).cls ≠ "java/lang/invoke/VarHandle") ∧ (parseMethodDescriptor (g_Y 104).desc).map (fun d => d.parameters.length) = some 0 ∧ (g_T 104).1 < 100 ∧ ∃ (Tf : u_T) (N : Nat), g_Cl[(g_T 104).1]? = some ((g_Y 104).cls, Tf, N) := ⟨(in_good pl_m96 9 rfl), (in_good pl_m96 10 rfl), (in_good pl_m96 0 rfl), (in_goodc (List.mem_append_right _ (List.mem_append_right _ (List.mem_append_right _ (List.mem_of_getElem? (i := 17) rfl)))) rfl), ⟨by decide, by decide⟩, by decide +kernel, by decide +kernel, ct_6, 7, rfl⟩
theorem mf_105 : Jvm.Cond.instanceMethod (g_Y 105) ∈ g_good ∧ Jvm.Cond.selects (g_Y 105).cls (g_Y 105) (g_Y 105) ∈ g_good ∧ Jvm.Cond.initialized (g_Y 105).cls ∈ g_good ∧ Jvm.Cond.code (g_Y 105) (g_B 105) (g_T 105).2.2.1 (g_R 105) ∈ g_good ∧ ((g_Y 105).cls ≠ "java/lang/invoke/MethodHandle" ∧ (g_Y 105).cls ≠ "java/lang/invoke/VarHandle") ∧ (parseMethodDescriptor (g_Y 105).desc).map (fun d => d.parameters.length) = some 1 ∧ (g_T 105).1 < 100 ∧ ∃ (Tf : u_T) (N : Nat), g_Cl[(g_T 105).1]? = some ((g_Y 105).cls, Tf, N) := ⟨(in_good pl_m96 11 rfl), (in_good pl_m96 12 rfl), (in_good pl_m96 0 rfl), (in_goodc (List.mem_append_right _ (List.mem_append_right _ (List.mem_append_right _ (List.mem_of_getElem? (i := 9) rfl)))) rfl), ⟨by decide, by decide⟩, by decide +kernel, by decide +kernel, ct_6, 7, rfl⟩
theorem mf_106 : Jvm.Cond.instanceMethod (g_Y 106) ∈ g_good ∧ Jvm.Cond.selects (g_Y 106).cls (g_Y 106) (g_Y 106) ∈ g_good ∧ Jvm.Cond.initialized (g_Y 106).cls ∈ g_good ∧ Jvm.Cond.code (g_Y 106) (g_B 106) (g_T 106).2.2.1 (g_R 106) ∈ g_good ∧ ((g_Y 106).cls ≠ "java/lang/invoke/MethodHandle" ∧ (g_Y 106).cls ≠ "java/lang/invoke/VarHandle") ∧ (parseMethodDescriptor (g_Y 106).desc).map (fun d => d.parameters.length) = some 2 ∧ (g_T 106).1 < 100 ∧ ∃ (Tf : u_T) (N : Nat), g_Cl[(g_T 106).1]? = some ((g_Y 106).cls, Tf, N) := ⟨(in_good pl_m96 13 rfl), (in_good pl_m96 14 rfl), (in_good pl_m96 0 rfl), (in_goodc (List.mem_append_right _ (List.mem_append_right _ (List.mem_append_right _ (List.mem_of_getElem? (i := 25) rfl)))) rfl), ⟨by decide, by decide⟩, by decide +kernel, by decide +kernel, ct_6, 7, rfl⟩
theorem mf_107 : Jvm.Cond.instanceMethod (g_Y 107) ∈ g_good ∧ Jvm.Cond.selects (g_Y 107).cls (g_Y 107) (g_Y 107) ∈ g_good ∧ Jvm.Cond.initialized (g_Y 107).cls ∈ g_good ∧ Jvm.Cond.code (g_Y 107) (g_B 107) (g_T 107).2.2.1 (g_R 107) ∈ g_good ∧ ((g_Y 107).cls ≠ "java/lang/invoke/MethodHandle" ∧ (g_Y 107).cls ≠ "java/lang/invoke/VarHandle") ∧ (parseMethodDescriptor (g_Y 107).desc).map (fun d => d.parameters.length) = some 1 ∧ (g_T 107).1 < 100 ∧ ∃ (Tf : u_T) (N : Nat), g_Cl[(g_T 107).1]? = some ((g_Y 107).cls, Tf, N) := ⟨(in_good pl_m96 15 rfl), (in_good pl_m96 16 rfl), (in_good pl_m96 0 rfl), (in_goodc (List.mem_append_right _ (List.mem_append_right _ (List.mem_append_right _ (List.mem_of_getElem? (i := 44) rfl)))) rfl), ⟨by decide, by decide⟩, by decide +kernel, by decide +kernel, ct_6, 7, rfl⟩
theorem mf_108 : Jvm.Cond.instanceMethod (g_Y 108) ∈ g_good ∧ Jvm.Cond.selects (g_Y 108).cls (g_Y 108) (g_Y 108) ∈ g_good ∧ Jvm.Cond.initialized (g_Y 108).cls ∈ g_good ∧ Jvm.Cond.code (g_Y 108) (g_B 108) (g_T 108).2.2.1 (g_R 108) ∈ g_good ∧ ((g_Y 108).cls ≠ "java/lang/invoke/MethodHandle" ∧ (g_Y 108).cls ≠ "java/lang/invoke/VarHandle") ∧ (parseMethodDescriptor (g_Y 108).desc).map (fun d => d.parameters.length) = some 1 ∧ (g_T 108).1 < 100 ∧ ∃ (Tf : u_T) (N : Nat), g_Cl[(g_T 108).1]? = some ((g_Y 108).cls, Tf, N) := ⟨(in_good pl_m96 17 rfl), (in_good pl_m96 18 rfl), (in_good pl_m96 0 rfl), (in_goodc (List.mem_append_right _ (List.mem_append_right _ (List.mem_append_right _ (List.mem_of_getElem? (i := 66) rfl)))) rfl), ⟨by decide, by decide⟩, by decide +kernel, by decide +kernel, ct_6, 7, rfl⟩
theorem mf_109 : Jvm.Cond.instanceMethod (g_Y 109) ∈ g_good ∧ Jvm.Cond.selects (g_Y 109).cls (g_Y 109) (g_Y 109) ∈ g_good ∧ Jvm.Cond.initialized (g_Y 109).cls ∈ g_good ∧ Jvm.Cond.code (g_Y 109) (g_B 109) (g_T 109).2.2.1 (g_R 109) ∈ g_good ∧ ((g_Y 109).cls ≠ "java/lang/invoke/MethodHandle" ∧ (g_Y 109).cls ≠ "java/lang/invoke/VarHandle") ∧ (parseMethodDescriptor (g_Y 109).desc).map (fun d => d.parameters.length) = some 0 ∧ (g_T 109).1 < 100 ∧ ∃ (Tf : u_T) (N : Nat), g_Cl[(g_T 109).1]? = some ((g_Y 109).cls, Tf, N) := ⟨(in_good pl_m96 19 rfl), (in_good pl_m96 20 rfl), (in_good pl_m96 0 rfl), (in_goodc (List.mem_append_right _ (List.mem_append_right _ (List.mem_append_right _ (List.mem_of_getElem? (i := 59) rfl)))) rfl), ⟨by decide, by decide⟩, by decide +kernel, by decide +kernel, ct_6, 7, rfl⟩
theorem mf_110 : Jvm.Cond.instanceMethod (g_Y 110) ∈ g_good ∧ Jvm.Cond.selects (g_Y 110).cls (g_Y 110) (g_Y 110) ∈ g_good ∧ Jvm.Cond.initialized (g_Y 110).cls ∈ g_good ∧ Jvm.Cond.code (g_Y 110) (g_B 110) (g_T 110).2.2.1 (g_R 110) ∈ g_good ∧ ((g_Y 110).cls ≠ "java/lang/invoke/MethodHandle" ∧ (g_Y 110).cls ≠ "java/lang/invoke/VarHandle") ∧ (parseMethodDescriptor (g_Y 110).desc).map (fun d => d.parameters.length) = some 0 ∧ (g_T 110).1 < 100 ∧ ∃ (Tf : u_T) (N : Nat), g_Cl[(g_T 110).1]? = some ((g_Y 110).cls, Tf, N) := ⟨(in_good pl_m96 21 rfl), (in_good pl_m96 22 rfl), (in_good pl_m96 0 rfl), (in_goodc (List.mem_append_right _ (List.mem_append_right _ (List.mem_append_right _ (List.mem_of_getElem? (i := 74) rfl)))) rfl), ⟨by decide, by decide⟩, by decide +kernel, by decide +kernel, ct_6, 7, rfl⟩
theorem mf_111 : Jvm.Cond.instanceMethod (g_Y 111) ∈ g_good ∧ Jvm.Cond.selects (g_Y 111).cls (g_Y 111) (g_Y 111) ∈ g_good ∧ Jvm.Cond.initialized (g_Y 111).cls ∈ g_good ∧ Jvm.Cond.code (g_Y 111) (g_B 111) (g_T 111).2.2.1 (g_R 111) ∈ g_good ∧ ((g_Y 111).cls ≠ "java/lang/invoke/MethodHandle" ∧ (g_Y 111).cls ≠ "java/lang/invoke/VarHandle") ∧ (parseMethodDescriptor (g_Y 111).desc).map (fun d => d.parameters.length) = some 0 ∧ (g_T 111).1 < 100 ∧ ∃ (Tf : u_T) (N : Nat), g_Cl[(g_T 111).1]? = some ((g_Y 111).cls, Tf, N) := ⟨(in_good pl_m96 23 rfl), (in_good pl_m96 24 rfl), (in_good pl_m96 0 rfl), (in_goodc (List.mem_append_right _ (List.mem_append_right _ (List.mem_append_right _ (List.mem_of_getElem? (i := 102) rfl)))) rfl), ⟨by decide, by decide⟩, by decide +kernel, by decide +kernel, ct_6, 7, rfl⟩
theorem mf_112 : Jvm.Cond.instanceMethod (g_Y 112) ∈ g_good ∧ Jvm.Cond.selects (g_Y 112).cls (g_Y 112) (g_Y 112) ∈ g_good ∧ Jvm.Cond.initialized (g_Y 112).cls ∈ g_good ∧ Jvm.Cond.code (g_Y 112) (g_B 112) (g_T 112).2.2.1 (g_R 112) ∈ g_good ∧ ((g_Y 112).cls ≠ "java/lang/invoke/MethodHandle" ∧ (g_Y 112).cls ≠ "java/lang/invoke/VarHandle") ∧ (parseMethodDescriptor (g_Y 112).desc).map (fun d => d.parameters.length) = some 1 ∧ (g_T 112).1 < 100 ∧ ∃ (Tf : u_T) (N : Nat), g_Cl[(g_T 112).1]? = some ((g_Y 112).cls, Tf, N) := ⟨(in_good pl_m96 25 rfl), (in_good pl_m96 26 rfl), (in_good pl_m96 0 rfl), (in_goodc (List.mem_append_right _ (List.mem_append_right _ (List.mem_append_left _ (List.mem_of_getElem? (i := 99) rfl)))) rfl), ⟨by decide, by decide⟩, by decide +kernel, by decide +kernel, ct_6, 7, rfl⟩
theorem mf_113 : Jvm.Cond.instanceMethod (g_Y 113) ∈ g_good ∧ Jvm.Cond.selects (g_Y 113).cls (g_Y 113) (g_Y 113) ∈ g_good ∧ Jvm.Cond.initialized (g_Y 113).cls ∈ g_good ∧ Jvm.Cond.code (g_Y 113) (g_B 113) (g_T 113).2.2.1 (g_R 113) ∈ g_good ∧ ((g_Y 113).cls ≠ "java/lang/invoke/MethodHandle" ∧ (g_Y 113).cls ≠ "java/lang/invoke/VarHandle") ∧ (parseMethodDescriptor (g_Y 113).desc).map (fun d => d.parameters.length) = some 1 ∧ (g_T 113).1 < 100 ∧ ∃ (Tf : u_T) (N : Nat), g_Cl[(g_T 113).1]? = some ((g_Y 113).cls, Tf, N) := ⟨(in_good pl_m96 27 rfl), (in_good pl_m96 28 rfl), (in_good pl_m96 0 rfl), (in_goodc (List.mem_append_right _ (List.mem_append_right _ (List.mem_append_left _ (List.mem_of_getElem? (i := 113) rfl)))) rfl), ⟨by decide, by decide⟩, by decide +kernel, by decide +kernel, ct_6, 7, rfl⟩
theorem mf_114 : Jvm.Cond.instanceMethod (g_Y 114) ∈ g_good ∧ Jvm.Cond.selects (g_Y 114).cls (g_Y 114) (g_Y 114) ∈ g_good ∧ Jvm.Cond.initialized (g_Y 114).cls ∈ g_good ∧ Jvm.Cond.code (g_Y 114) (g_B 114) (g_T 114).2.2.1 (g_R 114) ∈ g_good ∧ ((g_Y 114).cls ≠ "java/lang/invoke/MethodHandle" ∧ (g_Y 114).cls ≠ "java/lang/invoke/VarHandle") ∧ (parseMethodDescriptor (g_Y 114).desc).map (fun d => d.parameters.length) = some 0 ∧ (g_T 114).1 < 100 ∧ ∃ (Tf : u_T) (N : Nat), g_Cl[(g_T 114).1]? = some ((g_Y 114).cls, Tf, N) := ⟨(in_good pl_m96 29 rfl), (in_good pl_m96 30 rfl), (in_good pl_m96 0 rfl), (in_goodc (List.mem_append_right _ (List.mem_append_right _ (List.mem_append_left _ (List.mem_of_getElem? (i := 118) rfl)))) rfl), ⟨by decide, by decide⟩, by decide +kernel, by decide +kernel, ct_6, 7, rfl⟩
theorem mf_115 : Jvm.Cond.instanceMethod (g_Y 115) ∈ g_good ∧ Jvm.Cond.selects (g_Y 115).cls (g_Y 115) (g_Y 115) ∈ g_good ∧ Jvm.Cond.initialized (g_Y 115).cls ∈ g_good ∧ Jvm.Cond.code (g_Y 115) (g_B 115) (g_T 115).2.2.1 (g_R 115) ∈ g_good ∧ ((g_Y 115).cls ≠ "java/lang/invoke/MethodHandle" ∧ (g_Y 115).cls ≠ "java/lang/invoke/VarHandle") ∧ (parseMethodDescriptor (g_Y 115).desc).map (fun d => d.parameters.length) = some 1 ∧ (g_T 115).1 < 100 ∧ ∃ (Tf : u_T) (N : Nat), g_Cl[(g_T 115).1]? = some ((g_Y 115).cls, Tf, N) := ⟨(in_good pl_m96 31 rfl), (in_good pl_m96 32 rfl), (in_good pl_m96 0 rfl), (in_goodc (List.mem_append_right _ (List.mem_append_right _ (List.mem_append_left _ (List.mem_of_getElem? (i := 125) rfl)))) rfl), ⟨by decide, by decide⟩, by decide +kernel, by decide +kernel, ct_6, 7, rfl⟩
def PL_m112 : List (Nat × Jvm.Cond) := [(34, (Jvm.Cond.initialized "LayeredDrawing")),
  (349, (Jvm.Cond.instanceMethod ({ cls := "LayeredDrawing", name := "graphChanged", desc := "()V" } : Jvm.MethodName))),
  (0, (Jvm.Cond.selects "LayeredDrawing" ({ cls := "LayeredDrawing", name := "graphChanged", desc := "()V" } : Jvm.MethodName) ({ cls := "LayeredDrawing", name := "graphChanged", desc := "()V" } : Jvm.MethodName))),
  (530, (Jvm.Cond.instanceMethod ({ cls := "LayeredDrawing", name := "packIfReordered", desc := "()V" } : Jvm.MethodName))),
  (19, (Jvm.Cond.selects "LayeredDrawing" ({ cls := "LayeredDrawing", name := "packIfReordered", desc := "()V" } : Jvm.MethodName) ({ cls := "LayeredDrawing", name := "packIfReordered", desc := "()V" } : Jvm.MethodName))),
  (406, (Jvm.Cond.instanceMethod ({ cls := "LayeredDrawing", name := "isNode", desc := "(I)Z" } : Jvm.MethodName))),
  (9, (Jvm.Cond.selects "LayeredDrawing" ({ cls := "LayeredDrawing", name := "isNode", desc := "(I)Z" } : Jvm.MethodName) ({ cls := "LayeredDrawing", name := "isNode", desc := "(I)Z" } : Jvm.MethodName))),
  (686, (Jvm.Cond.instanceMethod ({ cls := "LayeredDrawing", name := "isEdge", desc := "(I)Z" } : Jvm.MethodName))),
  (26, (Jvm.Cond.selects "LayeredDrawing" ({ cls := "LayeredDrawing", name := "isEdge", desc := "(I)Z" } : Jvm.MethodName) ({ cls := "LayeredDrawing", name := "isEdge", desc := "(I)Z" } : Jvm.MethodName))),
  (706, (Jvm.Cond.instanceMethod ({ cls := "LayeredDrawing", name := "isLayer", desc := "(I)Z" } : Jvm.MethodName))),
  (27, (Jvm.Cond.selects "LayeredDrawing" ({ cls := "LayeredDrawing", name := "isLayer", desc := "(I)Z" } : Jvm.MethodName) ({ cls := "LayeredDrawing", name := "isLayer", desc := "(I)Z" } : Jvm.MethodName))),
  (671, (Jvm.Cond.static ({ cls := "LayeredDrawing", name := "isPort", desc := "(I)Z" } : Jvm.MethodName))),
  (780, (Jvm.Cond.static ({ cls := "LayeredDrawing", name := "isGroup", desc := "(I)Z" } : Jvm.MethodName))),
  (615, (Jvm.Cond.instanceMethod ({ cls := "LayeredDrawing", name := "slotNumbered", desc := "(I)LLayeredDrawing$Slot;" } : Jvm.MethodName))),
  (23, (Jvm.Cond.selects "LayeredDrawing" ({ cls := "LayeredDrawing", name := "slotNumbered", desc := "(I)LLayeredDrawing$Slot;" } : Jvm.MethodName) ({ cls := "LayeredDrawing", name := "slotNumbered", desc := "(I)LLayeredDrawing$Slot;" } : Jvm.MethodName))),
  (33, (Jvm.Cond.initialized "LayeredDrawingLaw")),
  (651, (Jvm.Cond.static ({ cls := "LayeredDrawingLaw", name := "cell", desc := "([II)I" } : Jvm.MethodName))),
  (656, (Jvm.Cond.static ({ cls := "LayeredDrawingLaw", name := "graph", desc := "(LLayeredDrawing;[IIIII)I" } : Jvm.MethodName))),
  (757, (Jvm.Cond.static ({ cls := "LayeredDrawingLaw", name := "size", desc := "(I)I" } : Jvm.MethodName))),
  (754, (Jvm.Cond.static ({ cls := "LayeredDrawingLaw", name := "end", desc := "(LLayeredDrawing;III)I" } : Jvm.MethodName))),
  (678, (Jvm.Cond.static ({ cls := "LayeredDrawingLaw", name := "sound", desc := "(LLayeredDrawing;[I[I)Z" } : Jvm.MethodName))),
  (739, (Jvm.Cond.static ({ cls := "LayeredDrawingLaw", name := "pairs", desc := "(LLayeredDrawing;)I" } : Jvm.MethodName))),
  (751, (Jvm.Cond.static ({ cls := "LayeredDrawingLaw", name := "spreads", desc := "(LLayeredDrawing;)Z" } : Jvm.MethodName))),
  (772, (Jvm.Cond.static ({ cls := "LayeredDrawingLaw", name := "borders", desc := "(LLayeredDrawing;[I[II)Z" } : Jvm.MethodName)))]
theorem pl_m112 : PL_m112.all (fun q => decide (lw_tbl[q.1]? = some q.2) && goodWord q.2) = true := by decide +kernel
theorem mf_116 : Jvm.Cond.instanceMethod (g_Y 116) ∈ g_good ∧ Jvm.Cond.selects (g_Y 116).cls (g_Y 116) (g_Y 116) ∈ g_good ∧ Jvm.Cond.initialized (g_Y 116).cls ∈ g_good ∧ Jvm.Cond.code (g_Y 116) (g_B 116) (g_T 116).2.2.1 (g_R 116) ∈ g_good ∧ ((g_Y 116).cls ≠ "java/lang/invoke/MethodHandle" ∧ (g_Y 116).cls ≠ "java/lang/invoke/VarHandle") ∧ (parseMethodDescriptor (g_Y 116).desc).map (fun d => d.parameters.length) = some 0 ∧ (g_T 116).1 < 100 ∧ ∃ (Tf : u_T) (N : Nat), g_Cl[(g_T 116).1]? = some ((g_Y 116).cls, Tf, N) := ⟨(in_good pl_m112 1 rfl), (in_good pl_m112 2 rfl), (in_good pl_m112 0 rfl), (in_goodc (List.mem_append_right _ (List.mem_append_left _ (List.mem_of_getElem? (i := 77) rfl))) rfl), ⟨by decide, by decide⟩, by decide +kernel, by decide +kernel, ct_6, 7, rfl⟩
theorem mf_117 : Jvm.Cond.instanceMethod (g_Y 117) ∈ g_good ∧ Jvm.Cond.selects (g_Y 117).cls (g_Y 117) (g_Y 117) ∈ g_good ∧ Jvm.Cond.initialized (g_Y 117).cls ∈ g_good ∧ Jvm.Cond.code (g_Y 117) (g_B 117) (g_T 117).2.2.1 (g_R 117) ∈ g_good ∧ ((g_Y 117).cls ≠ "java/lang/invoke/MethodHandle" ∧ (g_Y 117).cls ≠ "java/lang/invoke/VarHandle") ∧ (parseMethodDescriptor (g_Y 117).desc).map (fun d => d.parameters.length) = some 0 ∧ (g_T 117).1 < 100 ∧ ∃ (Tf : u_T) (N : Nat), g_Cl[(g_T 117).1]? = some ((g_Y 117).cls, Tf, N) := ⟨(in_good pl_m112 3 rfl), (in_good pl_m112 4 rfl), (in_good pl_m112 0 rfl), (in_goodc (List.mem_append_right _ (List.mem_append_right _ (List.mem_append_left _ (List.mem_of_getElem? (i := 18) rfl)))) rfl), ⟨by decide, by decide⟩, by decide +kernel, by decide +kernel, ct_6, 7, rfl⟩
theorem mf_118 : Jvm.Cond.instanceMethod (g_Y 118) ∈ g_good ∧ Jvm.Cond.selects (g_Y 118).cls (g_Y 118) (g_Y 118) ∈ g_good ∧ Jvm.Cond.initialized (g_Y 118).cls ∈ g_good ∧ Jvm.Cond.code (g_Y 118) (g_B 118) (g_T 118).2.2.1 (g_R 118) ∈ g_good ∧ ((g_Y 118).cls ≠ "java/lang/invoke/MethodHandle" ∧ (g_Y 118).cls ≠ "java/lang/invoke/VarHandle") ∧ (parseMethodDescriptor (g_Y 118).desc).map (fun d => d.parameters.length) = some 1 ∧ (g_T 118).1 < 100 ∧ ∃ (Tf : u_T) (N : Nat), g_Cl[(g_T 118).1]? = some ((g_Y 118).cls, Tf, N) := ⟨(in_good pl_m112 5 rfl), (in_good pl_m112 6 rfl), (in_good pl_m112 0 rfl), (in_goodc (List.mem_append_right _ (List.mem_append_left _ (List.mem_of_getElem? (i := 134) rfl))) rfl), ⟨by decide, by decide⟩, by decide +kernel, by decide +kernel, ct_6, 7, rfl⟩
theorem mf_119 : Jvm.Cond.instanceMethod (g_Y 119) ∈ g_good ∧ Jvm.Cond.selects (g_Y 119).cls (g_Y 119) (g_Y 119) ∈ g_good ∧ Jvm.Cond.initialized (g_Y 119).cls ∈ g_good ∧ Jvm.Cond.code (g_Y 119) (g_B 119) (g_T 119).2.2.1 (g_R 119) ∈ g_good ∧ ((g_Y 119).cls ≠ "java/lang/invoke/MethodHandle" ∧ (g_Y 119).cls ≠ "java/lang/invoke/VarHandle") ∧ (parseMethodDescriptor (g_Y 119).desc).map (fun d => d.parameters.length) = some 1 ∧ (g_T 119).1 < 100 ∧ ∃ (Tf : u_T) (N : Nat), g_Cl[(g_T 119).1]? = some ((g_Y 119).cls, Tf, N) := ⟨(in_good pl_m112 7 rfl), (in_good pl_m112 8 rfl), (in_good pl_m112 0 rfl), (in_goodc (List.mem_append_right _ (List.mem_append_right _ (List.mem_append_left _ (List.mem_of_getElem? (i := 174) rfl)))) rfl), ⟨by decide, by decide⟩, by decide +kernel, by decide +kernel, ct_6, 7, rfl⟩
theorem mf_120 : Jvm.Cond.instanceMethod (g_Y 120) ∈ g_good ∧ Jvm.Cond.selects (g_Y 120).cls (g_Y 120) (g_Y 120) ∈ g_good ∧ Jvm.Cond.initialized (g_Y 120).cls ∈ g_good ∧ Jvm.Cond.code (g_Y 120) (g_B 120) (g_T 120).2.2.1 (g_R 120) ∈ g_good ∧ ((g_Y 120).cls ≠ "java/lang/invoke/MethodHandle" ∧ (g_Y 120).cls ≠ "java/lang/invoke/VarHandle") ∧ (parseMethodDescriptor (g_Y 120).desc).map (fun d => d.parameters.length) = some 1 ∧ (g_T 120).1 < 100 ∧ ∃ (Tf : u_T) (N : Nat), g_Cl[(g_T 120).1]? = some ((g_Y 120).cls, Tf, N) := ⟨(in_good pl_m112 9 rfl), (in_good pl_m112 10 rfl), (in_good pl_m112 0 rfl), (in_goodc (List.mem_append_right _ (List.mem_append_right _ (List.mem_append_left _ (List.mem_of_getElem? (i := 194) rfl)))) rfl), ⟨by decide, by decide⟩, by decide +kernel, by decide +kernel, ct_6, 7, rfl⟩
theorem mf_121 : Jvm.Cond.static (g_Y 121) ∈ g_good ∧ Jvm.Cond.initialized (g_Y 121).cls ∈ g_good ∧ Jvm.Cond.code (g_Y 121) (g_B 121) (g_T 121).2.2.1 (g_R 121) ∈ g_good ∧ ((g_Y 121).cls ≠ "java/lang/invoke/MethodHandle" ∧ (g_Y 121).cls ≠ "java/lang/invoke/VarHandle") ∧ (parseMethodDescriptor (g_Y 121).desc).map (fun d => d.parameters.length) = some 1 := ⟨(in_good pl_m112 11 rfl), (in_good pl_m112 0 rfl), (in_goodc (List.mem_append_right _ (List.mem_append_right _ (List.mem_append_left _ (List.mem_of_getElem? (i := 159) rfl)))) rfl), ⟨by decide, by decide⟩, by decide +kernel⟩
theorem mf_122 : Jvm.Cond.static (g_Y 122) ∈ g_good ∧ Jvm.Cond.initialized (g_Y 122).cls ∈ g_good ∧ Jvm.Cond.code (g_Y 122) (g_B 122) (g_T 122).2.2.1 (g_R 122) ∈ g_good ∧ ((g_Y 122).cls ≠ "java/lang/invoke/MethodHandle" ∧ (g_Y 122).cls ≠ "java/lang/invoke/VarHandle") ∧ (parseMethodDescriptor (g_Y 122).desc).map (fun d => d.parameters.length) = some 1 := ⟨(in_good pl_m112 12 rfl), (in_good pl_m112 0 rfl), (in_goodc (List.mem_append_right _ (List.mem_append_right _ (List.mem_append_right _ (List.mem_of_getElem? (i := 28) rfl)))) rfl), ⟨by decide, by decide⟩, by decide +kernel⟩
theorem mf_123 : Jvm.Cond.instanceMethod (g_Y 123) ∈ g_good ∧ Jvm.Cond.selects (g_Y 123).cls (g_Y 123) (g_Y 123) ∈ g_good ∧ Jvm.Cond.initialized (g_Y 123).cls ∈ g_good ∧ Jvm.Cond.code (g_Y 123) (g_B 123) (g_T 123).2.2.1 (g_R 123) ∈ g_good ∧ ((g_Y 123).cls ≠ "java/lang/invoke/MethodHandle" ∧ (g_Y 123).cls ≠ "java/lang/invoke/VarHandle") ∧ (parseMethodDescriptor (g_Y 123).desc).map (fun d => d.parameters.length) = some 1 ∧ (g_T 123).1 < 100 ∧ ∃ (Tf : u_T) (N : Nat), g_Cl[(g_T 123).1]? = some ((g_Y 123).cls, Tf, N) := ⟨(in_good pl_m112 13 rfl), (in_good pl_m112 14 rfl), (in_good pl_m112 0 rfl), (in_goodc (List.mem_append_right _ (List.mem_append_right _ (List.mem_append_left _ (List.mem_of_getElem? (i := 103) rfl)))) rfl), ⟨by decide, by decide⟩, by decide +kernel, by decide +kernel, ct_6, 7, rfl⟩
theorem mf_124 : Jvm.Cond.static (g_Y 124) ∈ g_good ∧ Jvm.Cond.initialized (g_Y 124).cls ∈ g_good ∧ Jvm.Cond.code (g_Y 124) (g_B 124) (g_T 124).2.2.1 (g_R 124) ∈ g_good ∧ ((g_Y 124).cls ≠ "java/lang/invoke/MethodHandle" ∧ (g_Y 124).cls ≠ "java/lang/invoke/VarHandle") ∧ (parseMethodDescriptor (g_Y 124).desc).map (fun d => d.parameters.length) = some 2 := ⟨(in_good pl_m112 16 rfl), (in_good pl_m112 15 rfl), (in_goodc (List.mem_append_right _ (List.mem_append_right _ (List.mem_append_left _ (List.mem_of_getElem? (i := 139) rfl)))) rfl), ⟨by decide, by decide⟩, by decide +kernel⟩
theorem mf_125 : Jvm.Cond.static (g_Y 125) ∈ g_good ∧ Jvm.Cond.initialized (g_Y 125).cls ∈ g_good ∧ Jvm.Cond.code (g_Y 125) (g_B 125) (g_T 125).2.2.1 (g_R 125) ∈ g_good ∧ ((g_Y 125).cls ≠ "java/lang/invoke/MethodHandle" ∧ (g_Y 125).cls ≠ "java/lang/invoke/VarHandle") ∧ (parseMethodDescriptor (g_Y 125).desc).map (fun d => d.parameters.length) = some 6 := ⟨(in_good pl_m112 17 rfl), (in_good pl_m112 15 rfl), (in_goodc (List.mem_append_right _ (List.mem_append_right _ (List.mem_append_left _ (List.mem_of_getElem? (i := 144) rfl)))) rfl), ⟨by decide, by decide⟩, by decide +kernel⟩
theorem mf_126 : Jvm.Cond.static (g_Y 126) ∈ g_good ∧ Jvm.Cond.initialized (g_Y 126).cls ∈ g_good ∧ Jvm.Cond.code (g_Y 126) (g_B 126) (g_T 126).2.2.1 (g_R 126) ∈ g_good ∧ ((g_Y 126).cls ≠ "java/lang/invoke/MethodHandle" ∧ (g_Y 126).cls ≠ "java/lang/invoke/VarHandle") ∧ (parseMethodDescriptor (g_Y 126).desc).map (fun d => d.parameters.length) = some 1 := ⟨(in_good pl_m112 18 rfl), (in_good pl_m112 15 rfl), (in_goodc (List.mem_append_right _ (List.mem_append_right _ (List.mem_append_right _ (List.mem_of_getElem? (i := 5) rfl)))) rfl), ⟨by decide, by decide⟩, by decide +kernel⟩
theorem mf_127 : Jvm.Cond.static (g_Y 127) ∈ g_good ∧ Jvm.Cond.initialized (g_Y 127).cls ∈ g_good ∧ Jvm.Cond.code (g_Y 127) (g_B 127) (g_T 127).2.2.1 (g_R 127) ∈ g_good ∧ ((g_Y 127).cls ≠ "java/lang/invoke/MethodHandle" ∧ (g_Y 127).cls ≠ "java/lang/invoke/VarHandle") ∧ (parseMethodDescriptor (g_Y 127).desc).map (fun d => d.parameters.length) = some 4 := ⟨(in_good pl_m112 19 rfl), (in_good pl_m112 15 rfl), (in_goodc (List.mem_append_right _ (List.mem_append_right _ (List.mem_append_right _ (List.mem_of_getElem? (i := 2) rfl)))) rfl), ⟨by decide, by decide⟩, by decide +kernel⟩
theorem mf_128 : Jvm.Cond.static (g_Y 128) ∈ g_good ∧ Jvm.Cond.initialized (g_Y 128).cls ∈ g_good ∧ Jvm.Cond.code (g_Y 128) (g_B 128) (g_T 128).2.2.1 (g_R 128) ∈ g_good ∧ ((g_Y 128).cls ≠ "java/lang/invoke/MethodHandle" ∧ (g_Y 128).cls ≠ "java/lang/invoke/VarHandle") ∧ (parseMethodDescriptor (g_Y 128).desc).map (fun d => d.parameters.length) = some 3 := ⟨(in_good pl_m112 20 rfl), (in_good pl_m112 15 rfl), (in_goodc (List.mem_append_right _ (List.mem_append_right _ (List.mem_append_left _ (List.mem_of_getElem? (i := 166) rfl)))) rfl), ⟨by decide, by decide⟩, by decide +kernel⟩
theorem mf_129 : Jvm.Cond.static (g_Y 129) ∈ g_good ∧ Jvm.Cond.initialized (g_Y 129).cls ∈ g_good ∧ Jvm.Cond.code (g_Y 129) (g_B 129) (g_T 129).2.2.1 (g_R 129) ∈ g_good ∧ ((g_Y 129).cls ≠ "java/lang/invoke/MethodHandle" ∧ (g_Y 129).cls ≠ "java/lang/invoke/VarHandle") ∧ (parseMethodDescriptor (g_Y 129).desc).map (fun d => d.parameters.length) = some 1 := ⟨(in_good pl_m112 21 rfl), (in_good pl_m112 15 rfl), (in_goodc (List.mem_append_right _ (List.mem_append_right _ (List.mem_append_left _ (List.mem_of_getElem? (i := 227) rfl)))) rfl), ⟨by decide, by decide⟩, by decide +kernel⟩
theorem mf_130 : Jvm.Cond.static (g_Y 130) ∈ g_good ∧ Jvm.Cond.initialized (g_Y 130).cls ∈ g_good ∧ Jvm.Cond.code (g_Y 130) (g_B 130) (g_T 130).2.2.1 (g_R 130) ∈ g_good ∧ ((g_Y 130).cls ≠ "java/lang/invoke/MethodHandle" ∧ (g_Y 130).cls ≠ "java/lang/invoke/VarHandle") ∧ (parseMethodDescriptor (g_Y 130).desc).map (fun d => d.parameters.length) = some 1 := ⟨(in_good pl_m112 22 rfl), (in_good pl_m112 15 rfl), (in_goodc (List.mem_append_right _ (List.mem_append_right _ (List.mem_append_left _ (List.mem_of_getElem? (i := 239) rfl)))) rfl), ⟨by decide, by decide⟩, by decide +kernel⟩
theorem mf_131 : Jvm.Cond.static (g_Y 131) ∈ g_good ∧ Jvm.Cond.initialized (g_Y 131).cls ∈ g_good ∧ Jvm.Cond.code (g_Y 131) (g_B 131) (g_T 131).2.2.1 (g_R 131) ∈ g_good ∧ ((g_Y 131).cls ≠ "java/lang/invoke/MethodHandle" ∧ (g_Y 131).cls ≠ "java/lang/invoke/VarHandle") ∧ (parseMethodDescriptor (g_Y 131).desc).map (fun d => d.parameters.length) = some 4 := ⟨(in_good pl_m112 23 rfl), (in_good pl_m112 15 rfl), (in_goodc (List.mem_append_right _ (List.mem_append_right _ (List.mem_append_right _ (List.mem_of_getElem? (i := 20) rfl)))) rfl), ⟨by decide, by decide⟩, by decide +kernel⟩
def PL_m128 : List (Nat × Jvm.Cond) := [(33, (Jvm.Cond.initialized "LayeredDrawingLaw")),
  (804, (Jvm.Cond.static ({ cls := "LayeredDrawingLaw", name := "aligned", desc := "(LLayeredDrawing;[I)Z" } : Jvm.MethodName))),
  (814, (Jvm.Cond.static ({ cls := "LayeredDrawingLaw", name := "number", desc := "(LLayeredDrawing;I)V" } : Jvm.MethodName))),
  (807, (Jvm.Cond.static ({ cls := "LayeredDrawingLaw", name := "reads", desc := "(LLayeredDrawing;II)Z" } : Jvm.MethodName))),
  (858, (Jvm.Cond.static ({ cls := "LayeredDrawingLaw", name := "refuses", desc := "(LLayeredDrawing;I)Z" } : Jvm.MethodName))),
  (43, (Jvm.Cond.initialized "java/util/Arrays")),
  (360, (Jvm.Cond.static ({ cls := "java/util/Arrays", name := "fill", desc := "([II)V" } : Jvm.MethodName)))]
theorem pl_m128 : PL_m128.all (fun q => decide (lw_tbl[q.1]? = some q.2) && goodWord q.2) = true := by decide +kernel
theorem mf_132 : Jvm.Cond.static (g_Y 132) ∈ g_good ∧ Jvm.Cond.initialized (g_Y 132).cls ∈ g_good ∧ Jvm.Cond.code (g_Y 132) (g_B 132) (g_T 132).2.2.1 (g_R 132) ∈ g_good ∧ ((g_Y 132).cls ≠ "java/lang/invoke/MethodHandle" ∧ (g_Y 132).cls ≠ "java/lang/invoke/VarHandle") ∧ (parseMethodDescriptor (g_Y 132).desc).map (fun d => d.parameters.length) = some 2 := ⟨(in_good pl_m128 1 rfl), (in_good pl_m128 0 rfl), (in_goodc (List.mem_append_right _ (List.mem_append_right _ (List.mem_append_right _ (List.mem_of_getElem? (i := 52) rfl)))) rfl), ⟨by decide, by decide⟩, by decide +kernel⟩
theorem mf_133 : Jvm.Cond.static (g_Y 133) ∈ g_good ∧ Jvm.Cond.initialized (g_Y 133).cls ∈ g_good ∧ Jvm.Cond.code (g_Y 133) (g_B 133) (g_T 133).2.2.1 (g_R 133) ∈ g_good ∧ ((g_Y 133).cls ≠ "java/lang/invoke/MethodHandle" ∧ (g_Y 133).cls ≠ "java/lang/invoke/VarHandle") ∧ (parseMethodDescriptor (g_Y 133).desc).map (fun d => d.parameters.length) = some 2 := ⟨(in_good pl_m128 2 rfl), (in_good pl_m128 0 rfl), (in_goodc (List.mem_append_right _ (List.mem_append_right _ (List.mem_append_right _ (List.mem_of_getElem? (i := 62) rfl)))) rfl), ⟨by decide, by decide⟩, by decide +kernel⟩
theorem mf_134 : Jvm.Cond.static (g_Y 134) ∈ g_good ∧ Jvm.Cond.initialized (g_Y 134).cls ∈ g_good ∧ Jvm.Cond.code (g_Y 134) (g_B 134) (g_T 134).2.2.1 (g_R 134) ∈ g_good ∧ ((g_Y 134).cls ≠ "java/lang/invoke/MethodHandle" ∧ (g_Y 134).cls ≠ "java/lang/invoke/VarHandle") ∧ (parseMethodDescriptor (g_Y 134).desc).map (fun d => d.parameters.length) = some 3 := ⟨(in_good pl_m128 3 rfl), (in_good pl_m128 0 rfl), (in_goodc (List.mem_append_right _ (List.mem_append_right _ (List.mem_append_right _ (List.mem_of_getElem? (i := 55) rfl)))) rfl), ⟨by decide, by decide⟩, by decide +kernel⟩
theorem mf_135 : Jvm.Cond.static (g_Y 135) ∈ g_good ∧ Jvm.Cond.initialized (g_Y 135).cls ∈ g_good ∧ Jvm.Cond.code (g_Y 135) (g_B 135) (g_T 135).2.2.1 (g_R 135) ∈ g_good ∧ ((g_Y 135).cls ≠ "java/lang/invoke/MethodHandle" ∧ (g_Y 135).cls ≠ "java/lang/invoke/VarHandle") ∧ (parseMethodDescriptor (g_Y 135).desc).map (fun d => d.parameters.length) = some 2 := ⟨(in_good pl_m128 4 rfl), (in_good pl_m128 0 rfl), (in_goodc (List.mem_append_right _ (List.mem_append_right _ (List.mem_append_right _ (List.mem_of_getElem? (i := 106) rfl)))) rfl), ⟨by decide, by decide⟩, by decide +kernel⟩
theorem mf_226 : Jvm.Cond.static (g_Y 226) ∈ g_good ∧ Jvm.Cond.initialized (g_Y 226).cls ∈ g_good ∧ Jvm.Cond.code (g_Y 226) (g_B 226) (g_T 226).2.2.1 (g_R 226) ∈ g_good ∧ ((g_Y 226).cls ≠ "java/lang/invoke/MethodHandle" ∧ (g_Y 226).cls ≠ "java/lang/invoke/VarHandle") ∧ (parseMethodDescriptor (g_Y 226).desc).map (fun d => d.parameters.length) = some 2 := ⟨(in_good pl_m128 6 rfl), (in_good pl_m128 5 rfl), (in_goodc (List.mem_append_right _ (List.mem_append_left _ (List.mem_of_getElem? (i := 88) rfl))) rfl), ⟨by decide, by decide⟩, by decide +kernel⟩
end
section
def lk_0_0 : List (Nat × Nat × Nat × Int) := [(3, 5, 1000, 1), (9, 0, 0, 3), (9, 12, 0, 3), (15, 0, 0, 4), (15, 12, 0, 4), (18, 0, 0, 0), (18, 12, 0, 0), (22, 0, 0, 1), (22, 12, 0, 1), (26, 0, 0, 2), (26, 12, 0, 2), (30, 0, 2, 1)]
def PL_o0_0 : List (Nat × Jvm.Cond) := [(230, (Jvm.Cond.methodLink "LayeredDrawing$Coordinates" (3 : Nat) ({ cls := "java/lang/Object", name := "<init>", desc := "()V" } : Jvm.MethodName))),
  (50, (Jvm.Cond.instanceMethod ({ cls := "java/lang/Object", name := "<init>", desc := "()V" } : Jvm.MethodName))),
  (234, (Jvm.Cond.fieldLink "LayeredDrawing$Coordinates" (9 : Nat) "LayeredDrawing$Coordinates" "leftOf" "[I")),
  (236, (Jvm.Cond.fieldLink "LayeredDrawing$Coordinates" (15 : Nat) "LayeredDrawing$Coordinates" "lefts" "[I")),
  (231, (Jvm.Cond.fieldLink "LayeredDrawing$Coordinates" (18 : Nat) "LayeredDrawing$Coordinates" "graph" "LLayeredDrawing$Graph;")),
  (232, (Jvm.Cond.fieldLink "LayeredDrawing$Coordinates" (22 : Nat) "LayeredDrawing$Coordinates" "layering" "LLayeredDrawing$Layering;")),
  (233, (Jvm.Cond.fieldLink "LayeredDrawing$Coordinates" (26 : Nat) "LayeredDrawing$Coordinates" "order" "LLayeredDrawing$Order;")),
  (117, (Jvm.Cond.fieldLink "LayeredDrawing$Coordinates" (30 : Nat) "LayeredDrawing$Layering" "layerCount" "I"))]
theorem pl_o0_0 : PL_o0_0.all (fun q => decide (lw_tbl[q.1]? = some q.2) && goodWord q.2) = true := by decide +kernel
theorem lf_0_0 : ∀ q ∈ lk_0_0, gLink g_T g_F g_Y g_B g_R g_Cl g_E g_nests g_good cn_0 q := List.forall_mem_cons.mpr ⟨⟨rfl, (in_good pl_o0_0 0 rfl), (in_good pl_o0_0 1 rfl), (in_goodc (List.mem_append_left _ (List.mem_of_getElem? (i := 18) rfl)) rfl)⟩,
  List.forall_mem_cons.mpr ⟨⟨by decide, cn_0, ct_0, 5, cy_0, cf_0 3 (by decide), (in_good pl_o0_0 2 rfl)⟩,
  List.forall_mem_cons.mpr ⟨⟨by decide, cn_0, ct_0, 5, cy_0, cf_0 3 (by decide), (in_good pl_o0_0 2 rfl), rfl, rfl⟩,
  List.forall_mem_cons.mpr ⟨⟨by decide, cn_0, ct_0, 5, cy_0, cf_0 4 (by decide), (in_good pl_o0_0 3 rfl)⟩,
  List.forall_mem_cons.mpr ⟨⟨by decide, cn_0, ct_0, 5, cy_0, cf_0 4 (by decide), (in_good pl_o0_0 3 rfl), rfl, rfl⟩,
  List.forall_mem_cons.mpr ⟨⟨by decide, cn_0, ct_0, 5, cy_0, cf_0 0 (by decide), (in_good pl_o0_0 4 rfl)⟩,
  List.forall_mem_cons.mpr ⟨⟨by decide, cn_0, ct_0, 5, cy_0, cf_0 0 (by decide), (in_good pl_o0_0 4 rfl), rfl, rfl⟩,
  List.forall_mem_cons.mpr ⟨⟨by decide, cn_0, ct_0, 5, cy_0, cf_0 1 (by decide), (in_good pl_o0_0 5 rfl)⟩,
  List.forall_mem_cons.mpr ⟨⟨by decide, cn_0, ct_0, 5, cy_0, cf_0 1 (by decide), (in_good pl_o0_0 5 rfl), rfl, rfl⟩,
  List.forall_mem_cons.mpr ⟨⟨by decide, cn_0, ct_0, 5, cy_0, cf_0 2 (by decide), (in_good pl_o0_0 6 rfl)⟩,
  List.forall_mem_cons.mpr ⟨⟨by decide, cn_0, ct_0, 5, cy_0, cf_0 2 (by decide), (in_good pl_o0_0 6 rfl), rfl, rfl⟩,
  List.forall_mem_cons.mpr ⟨⟨by decide, cn_2, ct_2, 11, cy_2, cf_2 1 (by decide), (in_good pl_o0_0 7 rfl)⟩,
  fun _ h => absurd h List.not_mem_nil⟩⟩⟩⟩⟩⟩⟩⟩⟩⟩⟩⟩
def lk_0_1 : List (Nat × Nat × Nat × Int) := [(36, 0, 3, 6), (41, 0, 3, 7), (44, 3, 42, 2), (48, 7, 0, 1073741824), (49, 3, 3, 3), (53, 13, 1004, 2), (58, 13, 1003, 2), (61, 0, 1, 1), (66, 3, 40, 3), (70, 3, 39, 3), (73, 3, 4, 3), (77, 0, 3, 2)]
def PL_o0_1 : List (Nat × Jvm.Cond) := [(179, (Jvm.Cond.fieldLink "LayeredDrawing$Coordinates" (36 : Nat) "LayeredDrawing$Order" "start" "[I")),
  (181, (Jvm.Cond.fieldLink "LayeredDrawing$Coordinates" (41 : Nat) "LayeredDrawing$Order" "sequence" "[I")),
  (467, (Jvm.Cond.methodLink "LayeredDrawing$Coordinates" (44 : Nat) ({ cls := "LayeredDrawing$Order", name := "widthAt", desc := "(I)I" } : Jvm.MethodName))),
  (584, (Jvm.Cond.constant "LayeredDrawing$Coordinates" (48 : Nat) (1073741824 : Int32))),
  (585, (Jvm.Cond.methodLink "LayeredDrawing$Coordinates" (49 : Nat) ({ cls := "LayeredDrawing$Coordinates", name := "desiredLeft", desc := "(II)I" } : Jvm.MethodName))),
  (595, (Jvm.Cond.methodLink "LayeredDrawing$Coordinates" (53 : Nat) ({ cls := "java/lang/Math", name := "min", desc := "(II)I" } : Jvm.MethodName))),
  (391, (Jvm.Cond.static ({ cls := "java/lang/Math", name := "min", desc := "(II)I" } : Jvm.MethodName))),
  (42, (Jvm.Cond.initialized "java/lang/Math")),
  (596, (Jvm.Cond.methodLink "LayeredDrawing$Coordinates" (58 : Nat) ({ cls := "java/lang/Math", name := "max", desc := "(II)I" } : Jvm.MethodName))),
  (398, (Jvm.Cond.static ({ cls := "java/lang/Math", name := "max", desc := "(II)I" } : Jvm.MethodName))),
  (66, (Jvm.Cond.fieldLink "LayeredDrawing$Coordinates" (61 : Nat) "LayeredDrawing$Graph" "edgeCount" "I")),
  (589, (Jvm.Cond.methodLink "LayeredDrawing$Coordinates" (66 : Nat) ({ cls := "LayeredDrawing$Order", name := "hasPartBelow", desc := "(II)Z" } : Jvm.MethodName))),
  (590, (Jvm.Cond.methodLink "LayeredDrawing$Coordinates" (70 : Nat) ({ cls := "LayeredDrawing$Order", name := "onEdge", desc := "(II)I" } : Jvm.MethodName))),
  (591, (Jvm.Cond.methodLink "LayeredDrawing$Coordinates" (73 : Nat) ({ cls := "LayeredDrawing$Coordinates", name := "putSorted", desc := "(II)V" } : Jvm.MethodName))),
  (172, (Jvm.Cond.fieldLink "LayeredDrawing$Coordinates" (77 : Nat) "LayeredDrawing$Order" "vertexCount" "I"))]
theorem pl_o0_1 : PL_o0_1.all (fun q => decide (lw_tbl[q.1]? = some q.2) && goodWord q.2) = true := by decide +kernel
theorem lf_0_1 : ∀ q ∈ lk_0_1, gLink g_T g_F g_Y g_B g_R g_Cl g_E g_nests g_good cn_0 q := List.forall_mem_cons.mpr ⟨⟨by decide, cn_3, ct_3, 16, cy_3, cf_3 6 (by decide), (in_good pl_o0_1 0 rfl)⟩,
  List.forall_mem_cons.mpr ⟨⟨by decide, cn_3, ct_3, 16, cy_3, cf_3 7 (by decide), (in_good pl_o0_1 1 rfl)⟩,
  List.forall_mem_cons.mpr ⟨⟨1, rfl, (in_good pl_o0_1 2 rfl), mf_42.1, mf_42.2.1, mf_42.2.2.1, mf_42.2.2.2.1, mf_42.2.2.2.2.1, mf_42.2.2.2.2.2.1, mf_42.2.2.2.2.2.2⟩,
  List.forall_mem_cons.mpr ⟨(in_good pl_o0_1 3 rfl),
  List.forall_mem_cons.mpr ⟨⟨2, rfl, (in_good pl_o0_1 4 rfl), mf_3.1, mf_3.2.1, mf_3.2.2.1, mf_3.2.2.2.1, mf_3.2.2.2.2.1, mf_3.2.2.2.2.2.1, mf_3.2.2.2.2.2.2⟩,
  List.forall_mem_cons.mpr ⟨⟨_, _, _, Or.inr (Or.inr ⟨rfl, rfl, rfl, rfl⟩), (in_good pl_o0_1 5 rfl), (in_good pl_o0_1 6 rfl), (in_good pl_o0_1 7 rfl), (in_goodc (List.mem_append_right _ (List.mem_append_left _ (List.mem_of_getElem? (i := 119) rfl))) rfl)⟩,
  List.forall_mem_cons.mpr ⟨⟨_, _, _, Or.inr (Or.inl ⟨rfl, rfl, rfl, rfl⟩), (in_good pl_o0_1 8 rfl), (in_good pl_o0_1 9 rfl), (in_good pl_o0_1 7 rfl), (in_goodc (List.mem_append_right _ (List.mem_append_left _ (List.mem_of_getElem? (i := 126) rfl))) rfl)⟩,
  List.forall_mem_cons.mpr ⟨⟨by decide, cn_1, ct_1, 9, cy_1, cf_1 1 (by decide), (in_good pl_o0_1 10 rfl)⟩,
  List.forall_mem_cons.mpr ⟨⟨2, rfl, (in_good pl_o0_1 11 rfl), mf_40.1, mf_40.2.1, mf_40.2.2.1, mf_40.2.2.2.1, mf_40.2.2.2.2.1, mf_40.2.2.2.2.2.1, mf_40.2.2.2.2.2.2⟩,
  List.forall_mem_cons.mpr ⟨⟨2, rfl, (in_good pl_o0_1 12 rfl), mf_39.1, mf_39.2.1, mf_39.2.2.1, mf_39.2.2.2.1, mf_39.2.2.2.2.1, mf_39.2.2.2.2.2.1, mf_39.2.2.2.2.2.2⟩,
  List.forall_mem_cons.mpr ⟨⟨2, rfl, (in_good pl_o0_1 13 rfl), mf_4.1, mf_4.2.1, mf_4.2.2.1, mf_4.2.2.2.1, mf_4.2.2.2.2.1, mf_4.2.2.2.2.2.1, mf_4.2.2.2.2.2.2⟩,
  List.forall_mem_cons.mpr ⟨⟨by decide, cn_3, ct_3, 16, cy_3, cf_3 2 (by decide), (in_good pl_o0_1 14 rfl)⟩,
  fun _ h => absurd h List.not_mem_nil⟩⟩⟩⟩⟩⟩⟩⟩⟩⟩⟩⟩
def lk_0_2 : List (Nat × Nat × Nat × Int) := [(80, 3, 5, 2), (83, 13, 1002, 1), (86, 0, 2, 7), (89, 0, 2, 6), (92, 3, 7, 3), (95, 0, 1, 0), (98, 0, 1, 3), (101, 3, 11, 3), (104, 0, 2, 5), (107, 3, 10, 3)]
def PL_o0_2 : List (Nat × Jvm.Cond) := [(601, (Jvm.Cond.methodLink "LayeredDrawing$Coordinates" (80 : Nat) ({ cls := "LayeredDrawing$Coordinates", name := "rightOf", desc := "(I)I" } : Jvm.MethodName))),
  (647, (Jvm.Cond.methodLink "LayeredDrawing$Coordinates" (83 : Nat) ({ cls := "java/lang/Math", name := "abs", desc := "(I)I" } : Jvm.MethodName))),
  (648, (Jvm.Cond.static ({ cls := "java/lang/Math", name := "abs", desc := "(I)I" } : Jvm.MethodName))),
  (42, (Jvm.Cond.initialized "java/lang/Math")),
  (135, (Jvm.Cond.fieldLink "LayeredDrawing$Coordinates" (86 : Nat) "LayeredDrawing$Layering" "bottom" "[I")),
  (132, (Jvm.Cond.fieldLink "LayeredDrawing$Coordinates" (89 : Nat) "LayeredDrawing$Layering" "top" "[I")),
  (643, (Jvm.Cond.methodLink "LayeredDrawing$Coordinates" (92 : Nat) ({ cls := "LayeredDrawing$Coordinates", name := "shift", desc := "(II)I" } : Jvm.MethodName))),
  (62, (Jvm.Cond.fieldLink "LayeredDrawing$Coordinates" (95 : Nat) "LayeredDrawing$Graph" "nodeCount" "I")),
  (73, (Jvm.Cond.fieldLink "LayeredDrawing$Coordinates" (98 : Nat) "LayeredDrawing$Graph" "groupOf" "[I")),
  (790, (Jvm.Cond.methodLink "LayeredDrawing$Coordinates" (101 : Nat) ({ cls := "LayeredDrawing$Coordinates", name := "sideOfNode", desc := "(II)I" } : Jvm.MethodName))),
  (129, (Jvm.Cond.fieldLink "LayeredDrawing$Coordinates" (104 : Nat) "LayeredDrawing$Layering" "layer" "[I")),
  (802, (Jvm.Cond.methodLink "LayeredDrawing$Coordinates" (107 : Nat) ({ cls := "LayeredDrawing$Coordinates", name := "sideOf", desc := "(II)I" } : Jvm.MethodName)))]
theorem pl_o0_2 : PL_o0_2.all (fun q => decide (lw_tbl[q.1]? = some q.2) && goodWord q.2) = true := by decide +kernel
theorem lf_0_2 : ∀ q ∈ lk_0_2, gLink g_T g_F g_Y g_B g_R g_Cl g_E g_nests g_good cn_0 q := List.forall_mem_cons.mpr ⟨⟨1, rfl, (in_good pl_o0_2 0 rfl), mf_5.1, mf_5.2.1, mf_5.2.2.1, mf_5.2.2.2.1, mf_5.2.2.2.2.1, mf_5.2.2.2.2.2.1, mf_5.2.2.2.2.2.2⟩,
  List.forall_mem_cons.mpr ⟨⟨_, _, _, Or.inl ⟨rfl, rfl, rfl, rfl⟩, (in_good pl_o0_2 1 rfl), (in_good pl_o0_2 2 rfl), (in_good pl_o0_2 3 rfl), (in_goodc (List.mem_append_right _ (List.mem_append_right _ (List.mem_append_left _ (List.mem_of_getElem? (i := 136) rfl)))) rfl)⟩,
  List.forall_mem_cons.mpr ⟨⟨by decide, cn_2, ct_2, 11, cy_2, cf_2 7 (by decide), (in_good pl_o0_2 4 rfl)⟩,
  List.forall_mem_cons.mpr ⟨⟨by decide, cn_2, ct_2, 11, cy_2, cf_2 6 (by decide), (in_good pl_o0_2 5 rfl)⟩,
  List.forall_mem_cons.mpr ⟨⟨2, rfl, (in_good pl_o0_2 6 rfl), mf_7.1, mf_7.2.1, mf_7.2.2.1, mf_7.2.2.2.1, mf_7.2.2.2.2.1, mf_7.2.2.2.2.2.1, mf_7.2.2.2.2.2.2⟩,
  List.forall_mem_cons.mpr ⟨⟨by decide, cn_1, ct_1, 9, cy_1, cf_1 0 (by decide), (in_good pl_o0_2 7 rfl)⟩,
  List.forall_mem_cons.mpr ⟨⟨by decide, cn_1, ct_1, 9, cy_1, cf_1 3 (by decide), (in_good pl_o0_2 8 rfl)⟩,
  List.forall_mem_cons.mpr ⟨⟨2, rfl, (in_good pl_o0_2 9 rfl), mf_11.1, mf_11.2.1, mf_11.2.2.1, mf_11.2.2.2.1, mf_11.2.2.2.2.1, mf_11.2.2.2.2.2.1, mf_11.2.2.2.2.2.2⟩,
  List.forall_mem_cons.mpr ⟨⟨by decide, cn_2, ct_2, 11, cy_2, cf_2 5 (by decide), (in_good pl_o0_2 10 rfl)⟩,
  List.forall_mem_cons.mpr ⟨⟨2, rfl, (in_good pl_o0_2 11 rfl), mf_10.1, mf_10.2.1, mf_10.2.2.1, mf_10.2.2.2.1, mf_10.2.2.2.2.1, mf_10.2.2.2.2.2.1, mf_10.2.2.2.2.2.2⟩,
  fun _ h => absurd h List.not_mem_nil⟩⟩⟩⟩⟩⟩⟩⟩⟩⟩
def lk_0 : List (Nat × Nat × Nat × Int) := lk_0_0 ++ (lk_0_1 ++ (lk_0_2))
theorem lf_0 : ∀ q ∈ lk_0, gLink g_T g_F g_Y g_B g_R g_Cl g_E g_nests g_good cn_0 q := List.forall_mem_append.mpr ⟨lf_0_0, List.forall_mem_append.mpr ⟨lf_0_1, lf_0_2⟩⟩
def lk_1_0 : List (Nat × Nat × Nat × Int) := [(3, 5, 1000, 1), (9, 0, 1, 0), (9, 1, 1, 0), (15, 0, 1, 1), (15, 1, 1, 1), (18, 0, 1, 2), (18, 12, 1, 2), (22, 0, 1, 3), (22, 12, 1, 3), (25, 0, 1, 4), (25, 12, 1, 4), (28, 0, 1, 5)]
def PL_o1_0 : List (Nat × Jvm.Cond) := [(57, (Jvm.Cond.methodLink "LayeredDrawing$Graph" (3 : Nat) ({ cls := "java/lang/Object", name := "<init>", desc := "()V" } : Jvm.MethodName))),
  (50, (Jvm.Cond.instanceMethod ({ cls := "java/lang/Object", name := "<init>", desc := "()V" } : Jvm.MethodName))),
  (58, (Jvm.Cond.fieldLink "LayeredDrawing$Graph" (9 : Nat) "LayeredDrawing$Graph" "nodeCount" "I")),
  (63, (Jvm.Cond.fieldLink "LayeredDrawing$Graph" (15 : Nat) "LayeredDrawing$Graph" "edgeCount" "I")),
  (68, (Jvm.Cond.fieldLink "LayeredDrawing$Graph" (18 : Nat) "LayeredDrawing$Graph" "widthOf" "[I")),
  (70, (Jvm.Cond.fieldLink "LayeredDrawing$Graph" (22 : Nat) "LayeredDrawing$Graph" "groupOf" "[I")),
  (74, (Jvm.Cond.fieldLink "LayeredDrawing$Graph" (25 : Nat) "LayeredDrawing$Graph" "source" "[I")),
  (77, (Jvm.Cond.fieldLink "LayeredDrawing$Graph" (28 : Nat) "LayeredDrawing$Graph" "target" "[I"))]
theorem pl_o1_0 : PL_o1_0.all (fun q => decide (lw_tbl[q.1]? = some q.2) && goodWord q.2) = true := by decide +kernel
theorem lf_1_0 : ∀ q ∈ lk_1_0, gLink g_T g_F g_Y g_B g_R g_Cl g_E g_nests g_good cn_1 q := List.forall_mem_cons.mpr ⟨⟨rfl, (in_good pl_o1_0 0 rfl), (in_good pl_o1_0 1 rfl), (in_goodc (List.mem_append_left _ (List.mem_of_getElem? (i := 18) rfl)) rfl)⟩,
  List.forall_mem_cons.mpr ⟨⟨by decide, cn_1, ct_1, 9, cy_1, cf_1 0 (by decide), (in_good pl_o1_0 2 rfl)⟩,
  List.forall_mem_cons.mpr ⟨⟨by decide, cn_1, ct_1, 9, cy_1, cf_1 0 (by decide), (in_good pl_o1_0 2 rfl), rfl⟩,
  List.forall_mem_cons.mpr ⟨⟨by decide, cn_1, ct_1, 9, cy_1, cf_1 1 (by decide), (in_good pl_o1_0 3 rfl)⟩,
  List.forall_mem_cons.mpr ⟨⟨by decide, cn_1, ct_1, 9, cy_1, cf_1 1 (by decide), (in_good pl_o1_0 3 rfl), rfl⟩,
  List.forall_mem_cons.mpr ⟨⟨by decide, cn_1, ct_1, 9, cy_1, cf_1 2 (by decide), (in_good pl_o1_0 4 rfl)⟩,
  List.forall_mem_cons.mpr ⟨⟨by decide, cn_1, ct_1, 9, cy_1, cf_1 2 (by decide), (in_good pl_o1_0 4 rfl), rfl, rfl⟩,
  List.forall_mem_cons.mpr ⟨⟨by decide, cn_1, ct_1, 9, cy_1, cf_1 3 (by decide), (in_good pl_o1_0 5 rfl)⟩,
  List.forall_mem_cons.mpr ⟨⟨by decide, cn_1, ct_1, 9, cy_1, cf_1 3 (by decide), (in_good pl_o1_0 5 rfl), rfl, rfl⟩,
  List.forall_mem_cons.mpr ⟨⟨by decide, cn_1, ct_1, 9, cy_1, cf_1 4 (by decide), (in_good pl_o1_0 6 rfl)⟩,
  List.forall_mem_cons.mpr ⟨⟨by decide, cn_1, ct_1, 9, cy_1, cf_1 4 (by decide), (in_good pl_o1_0 6 rfl), rfl, rfl⟩,
  List.forall_mem_cons.mpr ⟨⟨by decide, cn_1, ct_1, 9, cy_1, cf_1 5 (by decide), (in_good pl_o1_0 7 rfl)⟩,
  fun _ h => absurd h List.not_mem_nil⟩⟩⟩⟩⟩⟩⟩⟩⟩⟩⟩⟩
def lk_1_1 : List (Nat × Nat × Nat × Int) := [(28, 12, 1, 5), (31, 0, 1, 6), (31, 12, 1, 6), (34, 0, 1, 7), (34, 12, 1, 7), (37, 0, 1, 8), (37, 12, 1, 8), (40, 6, 1001, 5)]
def PL_o1_1 : List (Nat × Jvm.Cond) := [(77, (Jvm.Cond.fieldLink "LayeredDrawing$Graph" (28 : Nat) "LayeredDrawing$Graph" "target" "[I")),
  (80, (Jvm.Cond.fieldLink "LayeredDrawing$Graph" (31 : Nat) "LayeredDrawing$Graph" "sourcePort" "[I")),
  (83, (Jvm.Cond.fieldLink "LayeredDrawing$Graph" (34 : Nat) "LayeredDrawing$Graph" "targetPort" "[I")),
  (86, (Jvm.Cond.fieldLink "LayeredDrawing$Graph" (37 : Nat) "LayeredDrawing$Graph" "least" "[I")),
  (621, (Jvm.Cond.methodLink "LayeredDrawing$Graph" (40 : Nat) ({ cls := "java/lang/System", name := "arraycopy", desc := "(Ljava/lang/Object;ILjava/lang/Object;II)V" } : Jvm.MethodName))),
  (458, (Jvm.Cond.native ({ cls := "java/lang/System", name := "arraycopy", desc := "(Ljava/lang/Object;ILjava/lang/Object;II)V" } : Jvm.MethodName))),
  (457, (Jvm.Cond.static ({ cls := "java/lang/System", name := "arraycopy", desc := "(Ljava/lang/Object;ILjava/lang/Object;II)V" } : Jvm.MethodName))),
  (41, (Jvm.Cond.initialized "java/lang/System"))]
theorem pl_o1_1 : PL_o1_1.all (fun q => decide (lw_tbl[q.1]? = some q.2) && goodWord q.2) = true := by decide +kernel
theorem lf_1_1 : ∀ q ∈ lk_1_1, gLink g_T g_F g_Y g_B g_R g_Cl g_E g_nests g_good cn_1 q := List.forall_mem_cons.mpr ⟨⟨by decide, cn_1, ct_1, 9, cy_1, cf_1 5 (by decide), (in_good pl_o1_1 0 rfl), rfl, rfl⟩,
  List.forall_mem_cons.mpr ⟨⟨by decide, cn_1, ct_1, 9, cy_1, cf_1 6 (by decide), (in_good pl_o1_1 1 rfl)⟩,
  List.forall_mem_cons.mpr ⟨⟨by decide, cn_1, ct_1, 9, cy_1, cf_1 6 (by decide), (in_good pl_o1_1 1 rfl), rfl, rfl⟩,
  List.forall_mem_cons.mpr ⟨⟨by decide, cn_1, ct_1, 9, cy_1, cf_1 7 (by decide), (in_good pl_o1_1 2 rfl)⟩,
  List.forall_mem_cons.mpr ⟨⟨by decide, cn_1, ct_1, 9, cy_1, cf_1 7 (by decide), (in_good pl_o1_1 2 rfl), rfl, rfl⟩,
  List.forall_mem_cons.mpr ⟨⟨by decide, cn_1, ct_1, 9, cy_1, cf_1 8 (by decide), (in_good pl_o1_1 3 rfl)⟩,
  List.forall_mem_cons.mpr ⟨⟨by decide, cn_1, ct_1, 9, cy_1, cf_1 8 (by decide), (in_good pl_o1_1 3 rfl), rfl, rfl⟩,
  List.forall_mem_cons.mpr ⟨⟨rfl, (in_good pl_o1_1 4 rfl), (in_good pl_o1_1 5 rfl), (in_good pl_o1_1 6 rfl), (in_good pl_o1_1 7 rfl)⟩,
  fun _ h => absurd h List.not_mem_nil⟩⟩⟩⟩⟩⟩⟩⟩
def lk_1 : List (Nat × Nat × Nat × Int) := lk_1_0 ++ (lk_1_1)
theorem lf_1 : ∀ q ∈ lk_1, gLink g_T g_F g_Y g_B g_R g_Cl g_E g_nests g_good cn_1 q := List.forall_mem_append.mpr ⟨lf_1_0, lf_1_1⟩
def lk_2_0 : List (Nat × Nat × Nat × Int) := [(3, 5, 1000, 1), (9, 0, 2, 1), (9, 1, 2, 1), (15, 0, 2, 2), (15, 12, 2, 2), (19, 0, 2, 3), (19, 12, 2, 3), (23, 0, 2, 4), (23, 12, 2, 4), (26, 0, 2, 5), (26, 12, 2, 5), (29, 0, 2, 6)]
def PL_o2_0 : List (Nat × Jvm.Cond) := [(114, (Jvm.Cond.methodLink "LayeredDrawing$Layering" (3 : Nat) ({ cls := "java/lang/Object", name := "<init>", desc := "()V" } : Jvm.MethodName))),
  (50, (Jvm.Cond.instanceMethod ({ cls := "java/lang/Object", name := "<init>", desc := "()V" } : Jvm.MethodName))),
  (116, (Jvm.Cond.fieldLink "LayeredDrawing$Layering" (9 : Nat) "LayeredDrawing$Layering" "layerCount" "I")),
  (120, (Jvm.Cond.fieldLink "LayeredDrawing$Layering" (15 : Nat) "LayeredDrawing$Layering" "turned" "[Z")),
  (122, (Jvm.Cond.fieldLink "LayeredDrawing$Layering" (19 : Nat) "LayeredDrawing$Layering" "upper" "[I")),
  (124, (Jvm.Cond.fieldLink "LayeredDrawing$Layering" (23 : Nat) "LayeredDrawing$Layering" "lower" "[I")),
  (126, (Jvm.Cond.fieldLink "LayeredDrawing$Layering" (26 : Nat) "LayeredDrawing$Layering" "layer" "[I")),
  (130, (Jvm.Cond.fieldLink "LayeredDrawing$Layering" (29 : Nat) "LayeredDrawing$Layering" "top" "[I"))]
theorem pl_o2_0 : PL_o2_0.all (fun q => decide (lw_tbl[q.1]? = some q.2) && goodWord q.2) = true := by decide +kernel
theorem lf_2_0 : ∀ q ∈ lk_2_0, gLink g_T g_F g_Y g_B g_R g_Cl g_E g_nests g_good cn_2 q := List.forall_mem_cons.mpr ⟨⟨rfl, (in_good pl_o2_0 0 rfl), (in_good pl_o2_0 1 rfl), (in_goodc (List.mem_append_left _ (List.mem_of_getElem? (i := 18) rfl)) rfl)⟩,
  List.forall_mem_cons.mpr ⟨⟨by decide, cn_2, ct_2, 11, cy_2, cf_2 1 (by decide), (in_good pl_o2_0 2 rfl)⟩,
  List.forall_mem_cons.mpr ⟨⟨by decide, cn_2, ct_2, 11, cy_2, cf_2 1 (by decide), (in_good pl_o2_0 2 rfl), rfl⟩,
  List.forall_mem_cons.mpr ⟨⟨by decide, cn_2, ct_2, 11, cy_2, cf_2 2 (by decide), (in_good pl_o2_0 3 rfl)⟩,
  List.forall_mem_cons.mpr ⟨⟨by decide, cn_2, ct_2, 11, cy_2, cf_2 2 (by decide), (in_good pl_o2_0 3 rfl), rfl, rfl⟩,
  List.forall_mem_cons.mpr ⟨⟨by decide, cn_2, ct_2, 11, cy_2, cf_2 3 (by decide), (in_good pl_o2_0 4 rfl)⟩,
  List.forall_mem_cons.mpr ⟨⟨by decide, cn_2, ct_2, 11, cy_2, cf_2 3 (by decide), (in_good pl_o2_0 4 rfl), rfl, rfl⟩,
  List.forall_mem_cons.mpr ⟨⟨by decide, cn_2, ct_2, 11, cy_2, cf_2 4 (by decide), (in_good pl_o2_0 5 rfl)⟩,
  List.forall_mem_cons.mpr ⟨⟨by decide, cn_2, ct_2, 11, cy_2, cf_2 4 (by decide), (in_good pl_o2_0 5 rfl), rfl, rfl⟩,
  List.forall_mem_cons.mpr ⟨⟨by decide, cn_2, ct_2, 11, cy_2, cf_2 5 (by decide), (in_good pl_o2_0 6 rfl)⟩,
  List.forall_mem_cons.mpr ⟨⟨by decide, cn_2, ct_2, 11, cy_2, cf_2 5 (by decide), (in_good pl_o2_0 6 rfl), rfl, rfl⟩,
  List.forall_mem_cons.mpr ⟨⟨by decide, cn_2, ct_2, 11, cy_2, cf_2 6 (by decide), (in_good pl_o2_0 7 rfl)⟩,
  fun _ h => absurd h List.not_mem_nil⟩⟩⟩⟩⟩⟩⟩⟩⟩⟩⟩⟩
def lk_2_1 : List (Nat × Nat × Nat × Int) := [(29, 12, 2, 6), (32, 0, 2, 7), (32, 12, 2, 7), (35, 0, 2, 8), (35, 12, 2, 8), (38, 0, 2, 9), (38, 12, 2, 9), (41, 0, 2, 10), (41, 12, 2, 10), (44, 0, 2, 0), (44, 12, 2, 0), (48, 3, 25, 1)]
def PL_o2_1 : List (Nat × Jvm.Cond) := [(130, (Jvm.Cond.fieldLink "LayeredDrawing$Layering" (29 : Nat) "LayeredDrawing$Layering" "top" "[I")),
  (133, (Jvm.Cond.fieldLink "LayeredDrawing$Layering" (32 : Nat) "LayeredDrawing$Layering" "bottom" "[I")),
  (136, (Jvm.Cond.fieldLink "LayeredDrawing$Layering" (35 : Nat) "LayeredDrawing$Layering" "visit" "[I")),
  (137, (Jvm.Cond.fieldLink "LayeredDrawing$Layering" (38 : Nat) "LayeredDrawing$Layering" "flow" "[I")),
  (138, (Jvm.Cond.fieldLink "LayeredDrawing$Layering" (41 : Nat) "LayeredDrawing$Layering" "pushedBy" "[I")),
  (115, (Jvm.Cond.fieldLink "LayeredDrawing$Layering" (44 : Nat) "LayeredDrawing$Layering" "graph" "LLayeredDrawing$Graph;")),
  (355, (Jvm.Cond.methodLink "LayeredDrawing$Layering" (48 : Nat) ({ cls := "LayeredDrawing$Layering", name := "findDirections", desc := "()V" } : Jvm.MethodName)))]
theorem pl_o2_1 : PL_o2_1.all (fun q => decide (lw_tbl[q.1]? = some q.2) && goodWord q.2) = true := by decide +kernel
theorem lf_2_1 : ∀ q ∈ lk_2_1, gLink g_T g_F g_Y g_B g_R g_Cl g_E g_nests g_good cn_2 q := List.forall_mem_cons.mpr ⟨⟨by decide, cn_2, ct_2, 11, cy_2, cf_2 6 (by decide), (in_good pl_o2_1 0 rfl), rfl, rfl⟩,
  List.forall_mem_cons.mpr ⟨⟨by decide, cn_2, ct_2, 11, cy_2, cf_2 7 (by decide), (in_good pl_o2_1 1 rfl)⟩,
  List.forall_mem_cons.mpr ⟨⟨by decide, cn_2, ct_2, 11, cy_2, cf_2 7 (by decide), (in_good pl_o2_1 1 rfl), rfl, rfl⟩,
  List.forall_mem_cons.mpr ⟨⟨by decide, cn_2, ct_2, 11, cy_2, cf_2 8 (by decide), (in_good pl_o2_1 2 rfl)⟩,
  List.forall_mem_cons.mpr ⟨⟨by decide, cn_2, ct_2, 11, cy_2, cf_2 8 (by decide), (in_good pl_o2_1 2 rfl), rfl, rfl⟩,
  List.forall_mem_cons.mpr ⟨⟨by decide, cn_2, ct_2, 11, cy_2, cf_2 9 (by decide), (in_good pl_o2_1 3 rfl)⟩,
  List.forall_mem_cons.mpr ⟨⟨by decide, cn_2, ct_2, 11, cy_2, cf_2 9 (by decide), (in_good pl_o2_1 3 rfl), rfl, rfl⟩,
  List.forall_mem_cons.mpr ⟨⟨by decide, cn_2, ct_2, 11, cy_2, cf_2 10 (by decide), (in_good pl_o2_1 4 rfl)⟩,
  List.forall_mem_cons.mpr ⟨⟨by decide, cn_2, ct_2, 11, cy_2, cf_2 10 (by decide), (in_good pl_o2_1 4 rfl), rfl, rfl⟩,
  List.forall_mem_cons.mpr ⟨⟨by decide, cn_2, ct_2, 11, cy_2, cf_2 0 (by decide), (in_good pl_o2_1 5 rfl)⟩,
  List.forall_mem_cons.mpr ⟨⟨by decide, cn_2, ct_2, 11, cy_2, cf_2 0 (by decide), (in_good pl_o2_1 5 rfl), rfl, rfl⟩,
  List.forall_mem_cons.mpr ⟨⟨0, rfl, (in_good pl_o2_1 6 rfl), mf_25.1, mf_25.2.1, mf_25.2.2.1, mf_25.2.2.2.1, mf_25.2.2.2.2.1, mf_25.2.2.2.2.2.1, mf_25.2.2.2.2.2.2⟩,
  fun _ h => absurd h List.not_mem_nil⟩⟩⟩⟩⟩⟩⟩⟩⟩⟩⟩⟩
def lk_2_2 : List (Nat × Nat × Nat × Int) := [(51, 3, 27, 1), (54, 0, 1, 0), (59, 13, 1003, 2), (65, 0, 1, 1), (68, 3, 21, 2), (72, 0, 1, 7), (75, 0, 1, 6), (78, 2, 226, 2), (84, 2, 26, 3), (88, 0, 1, 5), (91, 0, 1, 4), (94, 3, 28, 1)]
def PL_o2_2 : List (Nat × Jvm.Cond) := [(365, (Jvm.Cond.methodLink "LayeredDrawing$Layering" (51 : Nat) ({ cls := "LayeredDrawing$Layering", name := "findLayers", desc := "()V" } : Jvm.MethodName))),
  (60, (Jvm.Cond.fieldLink "LayeredDrawing$Layering" (54 : Nat) "LayeredDrawing$Graph" "nodeCount" "I")),
  (397, (Jvm.Cond.methodLink "LayeredDrawing$Layering" (59 : Nat) ({ cls := "java/lang/Math", name := "max", desc := "(II)I" } : Jvm.MethodName))),
  (398, (Jvm.Cond.static ({ cls := "java/lang/Math", name := "max", desc := "(II)I" } : Jvm.MethodName))),
  (42, (Jvm.Cond.initialized "java/lang/Math")),
  (65, (Jvm.Cond.fieldLink "LayeredDrawing$Layering" (65 : Nat) "LayeredDrawing$Graph" "edgeCount" "I")),
  (424, (Jvm.Cond.methodLink "LayeredDrawing$Layering" (68 : Nat) ({ cls := "LayeredDrawing$Layering", name := "span", desc := "(I)I" } : Jvm.MethodName))),
  (84, (Jvm.Cond.fieldLink "LayeredDrawing$Layering" (72 : Nat) "LayeredDrawing$Graph" "targetPort" "[I")),
  (81, (Jvm.Cond.fieldLink "LayeredDrawing$Layering" (75 : Nat) "LayeredDrawing$Graph" "sourcePort" "[I")),
  (359, (Jvm.Cond.methodLink "LayeredDrawing$Layering" (78 : Nat) ({ cls := "java/util/Arrays", name := "fill", desc := "([II)V" } : Jvm.MethodName))),
  (362, (Jvm.Cond.methodLink "LayeredDrawing$Layering" (84 : Nat) ({ cls := "LayeredDrawing$Layering", name := "visitNode", desc := "(LLayeredDrawing$Layering;II)V" } : Jvm.MethodName))),
  (78, (Jvm.Cond.fieldLink "LayeredDrawing$Layering" (88 : Nat) "LayeredDrawing$Graph" "target" "[I")),
  (75, (Jvm.Cond.fieldLink "LayeredDrawing$Layering" (91 : Nat) "LayeredDrawing$Graph" "source" "[I")),
  (369, (Jvm.Cond.methodLink "LayeredDrawing$Layering" (94 : Nat) ({ cls := "LayeredDrawing$Layering", name := "pushDown", desc := "()I" } : Jvm.MethodName)))]
theorem pl_o2_2 : PL_o2_2.all (fun q => decide (lw_tbl[q.1]? = some q.2) && goodWord q.2) = true := by decide +kernel
theorem lf_2_2 : ∀ q ∈ lk_2_2, gLink g_T g_F g_Y g_B g_R g_Cl g_E g_nests g_good cn_2 q := List.forall_mem_cons.mpr ⟨⟨0, rfl, (in_good pl_o2_2 0 rfl), mf_27.1, mf_27.2.1, mf_27.2.2.1, mf_27.2.2.2.1, mf_27.2.2.2.2.1, mf_27.2.2.2.2.2.1, mf_27.2.2.2.2.2.2⟩,
  List.forall_mem_cons.mpr ⟨⟨by decide, cn_1, ct_1, 9, cy_1, cf_1 0 (by decide), (in_good pl_o2_2 1 rfl)⟩,
  List.forall_mem_cons.mpr ⟨⟨_, _, _, Or.inr (Or.inl ⟨rfl, rfl, rfl, rfl⟩), (in_good pl_o2_2 2 rfl), (in_good pl_o2_2 3 rfl), (in_good pl_o2_2 4 rfl), (in_goodc (List.mem_append_right _ (List.mem_append_left _ (List.mem_of_getElem? (i := 126) rfl))) rfl)⟩,
  List.forall_mem_cons.mpr ⟨⟨by decide, cn_1, ct_1, 9, cy_1, cf_1 1 (by decide), (in_good pl_o2_2 5 rfl)⟩,
  List.forall_mem_cons.mpr ⟨⟨1, rfl, (in_good pl_o2_2 6 rfl), mf_21.1, mf_21.2.1, mf_21.2.2.1, mf_21.2.2.2.1, mf_21.2.2.2.2.1, mf_21.2.2.2.2.2.1, mf_21.2.2.2.2.2.2⟩,
  List.forall_mem_cons.mpr ⟨⟨by decide, cn_1, ct_1, 9, cy_1, cf_1 7 (by decide), (in_good pl_o2_2 7 rfl)⟩,
  List.forall_mem_cons.mpr ⟨⟨by decide, cn_1, ct_1, 9, cy_1, cf_1 6 (by decide), (in_good pl_o2_2 8 rfl)⟩,
  List.forall_mem_cons.mpr ⟨⟨by decide, (in_good pl_o2_2 9 rfl), mf_226.1, mf_226.2.1, mf_226.2.2.1, mf_226.2.2.2.1, mf_226.2.2.2.2⟩,
  List.forall_mem_cons.mpr ⟨⟨by decide, (in_good pl_o2_2 10 rfl), mf_26.1, mf_26.2.1, mf_26.2.2.1, mf_26.2.2.2.1, mf_26.2.2.2.2⟩,
  List.forall_mem_cons.mpr ⟨⟨by decide, cn_1, ct_1, 9, cy_1, cf_1 5 (by decide), (in_good pl_o2_2 11 rfl)⟩,
  List.forall_mem_cons.mpr ⟨⟨by decide, cn_1, ct_1, 9, cy_1, cf_1 4 (by decide), (in_good pl_o2_2 12 rfl)⟩,
  List.forall_mem_cons.mpr ⟨⟨0, rfl, (in_good pl_o2_2 13 rfl), mf_28.1, mf_28.2.1, mf_28.2.2.1, mf_28.2.2.2.1, mf_28.2.2.2.2.1, mf_28.2.2.2.2.2.1, mf_28.2.2.2.2.2.2⟩,
  fun _ h => absurd h List.not_mem_nil⟩⟩⟩⟩⟩⟩⟩⟩⟩⟩⟩⟩
def lk_2_3 : List (Nat × Nat × Nat × Int) := [(98, 3, 30, 2), (102, 3, 29, 1), (105, 0, 1, 8), (108, 3, 31, 2), (111, 3, 32, 2), (114, 3, 33, 3), (118, 7, 0, 1073741824), (119, 13, 1004, 2)]
def PL_o2_3 : List (Nat × Jvm.Cond) := [(377, (Jvm.Cond.methodLink "LayeredDrawing$Layering" (98 : Nat) ({ cls := "LayeredDrawing$Layering", name := "betterFlow", desc := "(I)Z" } : Jvm.MethodName))),
  (373, (Jvm.Cond.methodLink "LayeredDrawing$Layering" (102 : Nat) ({ cls := "LayeredDrawing$Layering", name := "pushOnce", desc := "()I" } : Jvm.MethodName))),
  (88, (Jvm.Cond.fieldLink "LayeredDrawing$Layering" (105 : Nat) "LayeredDrawing$Graph" "least" "[I")),
  (381, (Jvm.Cond.methodLink "LayeredDrawing$Layering" (108 : Nat) ({ cls := "LayeredDrawing$Layering", name := "pusherOf", desc := "(I)I" } : Jvm.MethodName))),
  (385, (Jvm.Cond.methodLink "LayeredDrawing$Layering" (111 : Nat) ({ cls := "LayeredDrawing$Layering", name := "flowOfCycle", desc := "(I)I" } : Jvm.MethodName))),
  (393, (Jvm.Cond.methodLink "LayeredDrawing$Layering" (114 : Nat) ({ cls := "LayeredDrawing$Layering", name := "moveFlow", desc := "(II)V" } : Jvm.MethodName))),
  (389, (Jvm.Cond.constant "LayeredDrawing$Layering" (118 : Nat) (1073741824 : Int32))),
  (390, (Jvm.Cond.methodLink "LayeredDrawing$Layering" (119 : Nat) ({ cls := "java/lang/Math", name := "min", desc := "(II)I" } : Jvm.MethodName))),
  (391, (Jvm.Cond.static ({ cls := "java/lang/Math", name := "min", desc := "(II)I" } : Jvm.MethodName))),
  (42, (Jvm.Cond.initialized "java/lang/Math"))]
theorem pl_o2_3 : PL_o2_3.all (fun q => decide (lw_tbl[q.1]? = some q.2) && goodWord q.2) = true := by decide +kernel
theorem lf_2_3 : ∀ q ∈ lk_2_3, gLink g_T g_F g_Y g_B g_R g_Cl g_E g_nests g_good cn_2 q := List.forall_mem_cons.mpr ⟨⟨1, rfl, (in_good pl_o2_3 0 rfl), mf_30.1, mf_30.2.1, mf_30.2.2.1, mf_30.2.2.2.1, mf_30.2.2.2.2.1, mf_30.2.2.2.2.2.1, mf_30.2.2.2.2.2.2⟩,
  List.forall_mem_cons.mpr ⟨⟨0, rfl, (in_good pl_o2_3 1 rfl), mf_29.1, mf_29.2.1, mf_29.2.2.1, mf_29.2.2.2.1, mf_29.2.2.2.2.1, mf_29.2.2.2.2.2.1, mf_29.2.2.2.2.2.2⟩,
  List.forall_mem_cons.mpr ⟨⟨by decide, cn_1, ct_1, 9, cy_1, cf_1 8 (by decide), (in_good pl_o2_3 2 rfl)⟩,
  List.forall_mem_cons.mpr ⟨⟨1, rfl, (in_good pl_o2_3 3 rfl), mf_31.1, mf_31.2.1, mf_31.2.2.1, mf_31.2.2.2.1, mf_31.2.2.2.2.1, mf_31.2.2.2.2.2.1, mf_31.2.2.2.2.2.2⟩,
  List.forall_mem_cons.mpr ⟨⟨1, rfl, (in_good pl_o2_3 4 rfl), mf_32.1, mf_32.2.1, mf_32.2.2.1, mf_32.2.2.2.1, mf_32.2.2.2.2.1, mf_32.2.2.2.2.2.1, mf_32.2.2.2.2.2.2⟩,
  List.forall_mem_cons.mpr ⟨⟨2, rfl, (in_good pl_o2_3 5 rfl), mf_33.1, mf_33.2.1, mf_33.2.2.1, mf_33.2.2.2.1, mf_33.2.2.2.2.1, mf_33.2.2.2.2.2.1, mf_33.2.2.2.2.2.2⟩,
  List.forall_mem_cons.mpr ⟨(in_good pl_o2_3 6 rfl),
  List.forall_mem_cons.mpr ⟨⟨_, _, _, Or.inr (Or.inr ⟨rfl, rfl, rfl, rfl⟩), (in_good pl_o2_3 7 rfl), (in_good pl_o2_3 8 rfl), (in_good pl_o2_3 9 rfl), (in_goodc (List.mem_append_right _ (List.mem_append_left _ (List.mem_of_getElem? (i := 119) rfl))) rfl)⟩,
  fun _ h => absurd h List.not_mem_nil⟩⟩⟩⟩⟩⟩⟩⟩
def lk_2 : List (Nat × Nat × Nat × Int) := lk_2_0 ++ (lk_2_1 ++ (lk_2_2 ++ (lk_2_3)))
theorem lf_2 : ∀ q ∈ lk_2, gLink g_T g_F g_Y g_B g_R g_Cl g_E g_nests g_good cn_2 q := List.forall_mem_append.mpr ⟨lf_2_0, List.forall_mem_append.mpr ⟨lf_2_1, List.forall_mem_append.mpr ⟨lf_2_2, lf_2_3⟩⟩⟩
def lk_3_0 : List (Nat × Nat × Nat × Int) := [(3, 5, 1000, 1), (9, 0, 3, 2), (9, 1, 3, 2), (15, 0, 3, 3), (15, 12, 3, 3), (19, 0, 3, 4), (19, 12, 3, 4), (22, 0, 3, 5), (22, 12, 3, 5), (25, 0, 3, 6), (25, 12, 3, 6), (28, 0, 3, 7)]
def PL_o3_0 : List (Nat × Jvm.Cond) := [(168, (Jvm.Cond.methodLink "LayeredDrawing$Order" (3 : Nat) ({ cls := "java/lang/Object", name := "<init>", desc := "()V" } : Jvm.MethodName))),
  (50, (Jvm.Cond.instanceMethod ({ cls := "java/lang/Object", name := "<init>", desc := "()V" } : Jvm.MethodName))),
  (171, (Jvm.Cond.fieldLink "LayeredDrawing$Order" (9 : Nat) "LayeredDrawing$Order" "vertexCount" "I")),
  (174, (Jvm.Cond.fieldLink "LayeredDrawing$Order" (15 : Nat) "LayeredDrawing$Order" "nameOf" "[I")),
  (176, (Jvm.Cond.fieldLink "LayeredDrawing$Order" (19 : Nat) "LayeredDrawing$Order" "layerAt" "[I")),
  (177, (Jvm.Cond.fieldLink "LayeredDrawing$Order" (22 : Nat) "LayeredDrawing$Order" "firstBend" "[I")),
  (178, (Jvm.Cond.fieldLink "LayeredDrawing$Order" (25 : Nat) "LayeredDrawing$Order" "start" "[I")),
  (180, (Jvm.Cond.fieldLink "LayeredDrawing$Order" (28 : Nat) "LayeredDrawing$Order" "sequence" "[I"))]
theorem pl_o3_0 : PL_o3_0.all (fun q => decide (lw_tbl[q.1]? = some q.2) && goodWord q.2) = true := by decide +kernel
theorem lf_3_0 : ∀ q ∈ lk_3_0, gLink g_T g_F g_Y g_B g_R g_Cl g_E g_nests g_good cn_3 q := List.forall_mem_cons.mpr ⟨⟨rfl, (in_good pl_o3_0 0 rfl), (in_good pl_o3_0 1 rfl), (in_goodc (List.mem_append_left _ (List.mem_of_getElem? (i := 18) rfl)) rfl)⟩,
  List.forall_mem_cons.mpr ⟨⟨by decide, cn_3, ct_3, 16, cy_3, cf_3 2 (by decide), (in_good pl_o3_0 2 rfl)⟩,
  List.forall_mem_cons.mpr ⟨⟨by decide, cn_3, ct_3, 16, cy_3, cf_3 2 (by decide), (in_good pl_o3_0 2 rfl), rfl⟩,
  List.forall_mem_cons.mpr ⟨⟨by decide, cn_3, ct_3, 16, cy_3, cf_3 3 (by decide), (in_good pl_o3_0 3 rfl)⟩,
  List.forall_mem_cons.mpr ⟨⟨by decide, cn_3, ct_3, 16, cy_3, cf_3 3 (by decide), (in_good pl_o3_0 3 rfl), rfl, rfl⟩,
  List.forall_mem_cons.mpr ⟨⟨by decide, cn_3, ct_3, 16, cy_3, cf_3 4 (by decide), (in_good pl_o3_0 4 rfl)⟩,
  List.forall_mem_cons.mpr ⟨⟨by decide, cn_3, ct_3, 16, cy_3, cf_3 4 (by decide), (in_good pl_o3_0 4 rfl), rfl, rfl⟩,
  List.forall_mem_cons.mpr ⟨⟨by decide, cn_3, ct_3, 16, cy_3, cf_3 5 (by decide), (in_good pl_o3_0 5 rfl)⟩,
  List.forall_mem_cons.mpr ⟨⟨by decide, cn_3, ct_3, 16, cy_3, cf_3 5 (by decide), (in_good pl_o3_0 5 rfl), rfl, rfl⟩,
  List.forall_mem_cons.mpr ⟨⟨by decide, cn_3, ct_3, 16, cy_3, cf_3 6 (by decide), (in_good pl_o3_0 6 rfl)⟩,
  List.forall_mem_cons.mpr ⟨⟨by decide, cn_3, ct_3, 16, cy_3, cf_3 6 (by decide), (in_good pl_o3_0 6 rfl), rfl, rfl⟩,
  List.forall_mem_cons.mpr ⟨⟨by decide, cn_3, ct_3, 16, cy_3, cf_3 7 (by decide), (in_good pl_o3_0 7 rfl)⟩,
  fun _ h => absurd h List.not_mem_nil⟩⟩⟩⟩⟩⟩⟩⟩⟩⟩⟩⟩
def lk_3_1 : List (Nat × Nat × Nat × Int) := [(28, 12, 3, 7), (31, 0, 3, 8), (31, 12, 3, 8), (34, 0, 3, 9), (34, 12, 3, 9), (37, 0, 3, 10), (37, 12, 3, 10), (40, 0, 3, 11), (40, 12, 3, 11), (43, 0, 3, 12), (43, 12, 3, 12), (46, 0, 3, 13)]
def PL_o3_1 : List (Nat × Jvm.Cond) := [(180, (Jvm.Cond.fieldLink "LayeredDrawing$Order" (28 : Nat) "LayeredDrawing$Order" "sequence" "[I")),
  (183, (Jvm.Cond.fieldLink "LayeredDrawing$Order" (31 : Nat) "LayeredDrawing$Order" "place" "[I")),
  (185, (Jvm.Cond.fieldLink "LayeredDrawing$Order" (34 : Nat) "LayeredDrawing$Order" "remembered" "[I")),
  (186, (Jvm.Cond.fieldLink "LayeredDrawing$Order" (37 : Nat) "LayeredDrawing$Order" "best" "[I")),
  (187, (Jvm.Cond.fieldLink "LayeredDrawing$Order" (40 : Nat) "LayeredDrawing$Order" "closed" "[I")),
  (188, (Jvm.Cond.fieldLink "LayeredDrawing$Order" (43 : Nat) "LayeredDrawing$Order" "weightSum" "[I")),
  (189, (Jvm.Cond.fieldLink "LayeredDrawing$Order" (46 : Nat) "LayeredDrawing$Order" "weightParts" "[I"))]
theorem pl_o3_1 : PL_o3_1.all (fun q => decide (lw_tbl[q.1]? = some q.2) && goodWord q.2) = true := by decide +kernel
theorem lf_3_1 : ∀ q ∈ lk_3_1, gLink g_T g_F g_Y g_B g_R g_Cl g_E g_nests g_good cn_3 q := List.forall_mem_cons.mpr ⟨⟨by decide, cn_3, ct_3, 16, cy_3, cf_3 7 (by decide), (in_good pl_o3_1 0 rfl), rfl, rfl⟩,
  List.forall_mem_cons.mpr ⟨⟨by decide, cn_3, ct_3, 16, cy_3, cf_3 8 (by decide), (in_good pl_o3_1 1 rfl)⟩,
  List.forall_mem_cons.mpr ⟨⟨by decide, cn_3, ct_3, 16, cy_3, cf_3 8 (by decide), (in_good pl_o3_1 1 rfl), rfl, rfl⟩,
  List.forall_mem_cons.mpr ⟨⟨by decide, cn_3, ct_3, 16, cy_3, cf_3 9 (by decide), (in_good pl_o3_1 2 rfl)⟩,
  List.forall_mem_cons.mpr ⟨⟨by decide, cn_3, ct_3, 16, cy_3, cf_3 9 (by decide), (in_good pl_o3_1 2 rfl), rfl, rfl⟩,
  List.forall_mem_cons.mpr ⟨⟨by decide, cn_3, ct_3, 16, cy_3, cf_3 10 (by decide), (in_good pl_o3_1 3 rfl)⟩,
  List.forall_mem_cons.mpr ⟨⟨by decide, cn_3, ct_3, 16, cy_3, cf_3 10 (by decide), (in_good pl_o3_1 3 rfl), rfl, rfl⟩,
  List.forall_mem_cons.mpr ⟨⟨by decide, cn_3, ct_3, 16, cy_3, cf_3 11 (by decide), (in_good pl_o3_1 4 rfl)⟩,
  List.forall_mem_cons.mpr ⟨⟨by decide, cn_3, ct_3, 16, cy_3, cf_3 11 (by decide), (in_good pl_o3_1 4 rfl), rfl, rfl⟩,
  List.forall_mem_cons.mpr ⟨⟨by decide, cn_3, ct_3, 16, cy_3, cf_3 12 (by decide), (in_good pl_o3_1 5 rfl)⟩,
  List.forall_mem_cons.mpr ⟨⟨by decide, cn_3, ct_3, 16, cy_3, cf_3 12 (by decide), (in_good pl_o3_1 5 rfl), rfl, rfl⟩,
  List.forall_mem_cons.mpr ⟨⟨by decide, cn_3, ct_3, 16, cy_3, cf_3 13 (by decide), (in_good pl_o3_1 6 rfl)⟩,
  fun _ h => absurd h List.not_mem_nil⟩⟩⟩⟩⟩⟩⟩⟩⟩⟩⟩⟩
def lk_3_2 : List (Nat × Nat × Nat × Int) := [(46, 12, 3, 13), (49, 0, 3, 14), (49, 12, 3, 14), (52, 0, 3, 15), (52, 12, 3, 15), (55, 0, 3, 0), (55, 12, 3, 0), (59, 0, 3, 1), (59, 12, 3, 1), (63, 0, 1, 0), (68, 0, 2, 5), (73, 3, 36, 3)]
def PL_o3_2 : List (Nat × Jvm.Cond) := [(189, (Jvm.Cond.fieldLink "LayeredDrawing$Order" (46 : Nat) "LayeredDrawing$Order" "weightParts" "[I")),
  (190, (Jvm.Cond.fieldLink "LayeredDrawing$Order" (49 : Nat) "LayeredDrawing$Order" "upperSpot" "[I")),
  (191, (Jvm.Cond.fieldLink "LayeredDrawing$Order" (52 : Nat) "LayeredDrawing$Order" "lowerSpot" "[I")),
  (169, (Jvm.Cond.fieldLink "LayeredDrawing$Order" (55 : Nat) "LayeredDrawing$Order" "graph" "LLayeredDrawing$Graph;")),
  (170, (Jvm.Cond.fieldLink "LayeredDrawing$Order" (59 : Nat) "LayeredDrawing$Order" "layering" "LLayeredDrawing$Layering;")),
  (59, (Jvm.Cond.fieldLink "LayeredDrawing$Order" (63 : Nat) "LayeredDrawing$Graph" "nodeCount" "I")),
  (127, (Jvm.Cond.fieldLink "LayeredDrawing$Order" (68 : Nat) "LayeredDrawing$Layering" "layer" "[I")),
  (432, (Jvm.Cond.methodLink "LayeredDrawing$Order" (73 : Nat) ({ cls := "LayeredDrawing$Order", name := "putVertex", desc := "(II)V" } : Jvm.MethodName)))]
theorem pl_o3_2 : PL_o3_2.all (fun q => decide (lw_tbl[q.1]? = some q.2) && goodWord q.2) = true := by decide +kernel
theorem lf_3_2 : ∀ q ∈ lk_3_2, gLink g_T g_F g_Y g_B g_R g_Cl g_E g_nests g_good cn_3 q := List.forall_mem_cons.mpr ⟨⟨by decide, cn_3, ct_3, 16, cy_3, cf_3 13 (by decide), (in_good pl_o3_2 0 rfl), rfl, rfl⟩,
  List.forall_mem_cons.mpr ⟨⟨by decide, cn_3, ct_3, 16, cy_3, cf_3 14 (by decide), (in_good pl_o3_2 1 rfl)⟩,
  List.forall_mem_cons.mpr ⟨⟨by decide, cn_3, ct_3, 16, cy_3, cf_3 14 (by decide), (in_good pl_o3_2 1 rfl), rfl, rfl⟩,
  List.forall_mem_cons.mpr ⟨⟨by decide, cn_3, ct_3, 16, cy_3, cf_3 15 (by decide), (in_good pl_o3_2 2 rfl)⟩,
  List.forall_mem_cons.mpr ⟨⟨by decide, cn_3, ct_3, 16, cy_3, cf_3 15 (by decide), (in_good pl_o3_2 2 rfl), rfl, rfl⟩,
  List.forall_mem_cons.mpr ⟨⟨by decide, cn_3, ct_3, 16, cy_3, cf_3 0 (by decide), (in_good pl_o3_2 3 rfl)⟩,
  List.forall_mem_cons.mpr ⟨⟨by decide, cn_3, ct_3, 16, cy_3, cf_3 0 (by decide), (in_good pl_o3_2 3 rfl), rfl, rfl⟩,
  List.forall_mem_cons.mpr ⟨⟨by decide, cn_3, ct_3, 16, cy_3, cf_3 1 (by decide), (in_good pl_o3_2 4 rfl)⟩,
  List.forall_mem_cons.mpr ⟨⟨by decide, cn_3, ct_3, 16, cy_3, cf_3 1 (by decide), (in_good pl_o3_2 4 rfl), rfl, rfl⟩,
  List.forall_mem_cons.mpr ⟨⟨by decide, cn_1, ct_1, 9, cy_1, cf_1 0 (by decide), (in_good pl_o3_2 5 rfl)⟩,
  List.forall_mem_cons.mpr ⟨⟨by decide, cn_2, ct_2, 11, cy_2, cf_2 5 (by decide), (in_good pl_o3_2 6 rfl)⟩,
  List.forall_mem_cons.mpr ⟨⟨2, rfl, (in_good pl_o3_2 7 rfl), mf_36.1, mf_36.2.1, mf_36.2.2.1, mf_36.2.2.2.1, mf_36.2.2.2.2.1, mf_36.2.2.2.2.2.1, mf_36.2.2.2.2.2.2⟩,
  fun _ h => absurd h List.not_mem_nil⟩⟩⟩⟩⟩⟩⟩⟩⟩⟩⟩⟩
def lk_3_3 : List (Nat × Nat × Nat × Int) := [(77, 0, 1, 1), (80, 0, 2, 7), (83, 0, 2, 6), (86, 3, 37, 1), (89, 0, 2, 1), (92, 3, 51, 2), (96, 3, 39, 3), (100, 0, 2, 3), (103, 0, 2, 4), (106, 0, 1, 3), (109, 0, 1, 2), (112, 6, 1001, 5)]
def PL_o3_3 : List (Nat × Jvm.Cond) := [(64, (Jvm.Cond.fieldLink "LayeredDrawing$Order" (77 : Nat) "LayeredDrawing$Graph" "edgeCount" "I")),
  (134, (Jvm.Cond.fieldLink "LayeredDrawing$Order" (80 : Nat) "LayeredDrawing$Layering" "bottom" "[I")),
  (131, (Jvm.Cond.fieldLink "LayeredDrawing$Order" (83 : Nat) "LayeredDrawing$Layering" "top" "[I")),
  (436, (Jvm.Cond.methodLink "LayeredDrawing$Order" (86 : Nat) ({ cls := "LayeredDrawing$Order", name := "orderByNames", desc := "()V" } : Jvm.MethodName))),
  (118, (Jvm.Cond.fieldLink "LayeredDrawing$Order" (89 : Nat) "LayeredDrawing$Layering" "layerCount" "I")),
  (440, (Jvm.Cond.methodLink "LayeredDrawing$Order" (92 : Nat) ({ cls := "LayeredDrawing$Order", name := "closeGroups", desc := "(I)V" } : Jvm.MethodName))),
  (499, (Jvm.Cond.methodLink "LayeredDrawing$Order" (96 : Nat) ({ cls := "LayeredDrawing$Order", name := "onEdge", desc := "(II)I" } : Jvm.MethodName))),
  (123, (Jvm.Cond.fieldLink "LayeredDrawing$Order" (100 : Nat) "LayeredDrawing$Layering" "upper" "[I")),
  (125, (Jvm.Cond.fieldLink "LayeredDrawing$Order" (103 : Nat) "LayeredDrawing$Layering" "lower" "[I")),
  (72, (Jvm.Cond.fieldLink "LayeredDrawing$Order" (106 : Nat) "LayeredDrawing$Graph" "groupOf" "[I")),
  (69, (Jvm.Cond.fieldLink "LayeredDrawing$Order" (109 : Nat) "LayeredDrawing$Graph" "widthOf" "[I")),
  (456, (Jvm.Cond.methodLink "LayeredDrawing$Order" (112 : Nat) ({ cls := "java/lang/System", name := "arraycopy", desc := "(Ljava/lang/Object;ILjava/lang/Object;II)V" } : Jvm.MethodName))),
  (458, (Jvm.Cond.native ({ cls := "java/lang/System", name := "arraycopy", desc := "(Ljava/lang/Object;ILjava/lang/Object;II)V" } : Jvm.MethodName))),
  (457, (Jvm.Cond.static ({ cls := "java/lang/System", name := "arraycopy", desc := "(Ljava/lang/Object;ILjava/lang/Object;II)V" } : Jvm.MethodName))),
  (41, (Jvm.Cond.initialized "java/lang/System"))]
theorem pl_o3_3 : PL_o3_3.all (fun q => decide (lw_tbl[q.1]? = some q.2) && goodWord q.2) = true := by decide +kernel
theorem lf_3_3 : ∀ q ∈ lk_3_3, gLink g_T g_F g_Y g_B g_R g_Cl g_E g_nests g_good cn_3 q := List.forall_mem_cons.mpr ⟨⟨by decide, cn_1, ct_1, 9, cy_1, cf_1 1 (by decide), (in_good pl_o3_3 0 rfl)⟩,
  List.forall_mem_cons.mpr ⟨⟨by decide, cn_2, ct_2, 11, cy_2, cf_2 7 (by decide), (in_good pl_o3_3 1 rfl)⟩,
  List.forall_mem_cons.mpr ⟨⟨by decide, cn_2, ct_2, 11, cy_2, cf_2 6 (by decide), (in_good pl_o3_3 2 rfl)⟩,
  List.forall_mem_cons.mpr ⟨⟨0, rfl, (in_good pl_o3_3 3 rfl), mf_37.1, mf_37.2.1, mf_37.2.2.1, mf_37.2.2.2.1, mf_37.2.2.2.2.1, mf_37.2.2.2.2.2.1, mf_37.2.2.2.2.2.2⟩,
  List.forall_mem_cons.mpr ⟨⟨by decide, cn_2, ct_2, 11, cy_2, cf_2 1 (by decide), (in_good pl_o3_3 4 rfl)⟩,
  List.forall_mem_cons.mpr ⟨⟨1, rfl, (in_good pl_o3_3 5 rfl), mf_51.1, mf_51.2.1, mf_51.2.2.1, mf_51.2.2.2.1, mf_51.2.2.2.2.1, mf_51.2.2.2.2.2.1, mf_51.2.2.2.2.2.2⟩,
  List.forall_mem_cons.mpr ⟨⟨2, rfl, (in_good pl_o3_3 6 rfl), mf_39.1, mf_39.2.1, mf_39.2.2.1, mf_39.2.2.2.1, mf_39.2.2.2.2.1, mf_39.2.2.2.2.2.1, mf_39.2.2.2.2.2.2⟩,
  List.forall_mem_cons.mpr ⟨⟨by decide, cn_2, ct_2, 11, cy_2, cf_2 3 (by decide), (in_good pl_o3_3 7 rfl)⟩,
  List.forall_mem_cons.mpr ⟨⟨by decide, cn_2, ct_2, 11, cy_2, cf_2 4 (by decide), (in_good pl_o3_3 8 rfl)⟩,
  List.forall_mem_cons.mpr ⟨⟨by decide, cn_1, ct_1, 9, cy_1, cf_1 3 (by decide), (in_good pl_o3_3 9 rfl)⟩,
  List.forall_mem_cons.mpr ⟨⟨by decide, cn_1, ct_1, 9, cy_1, cf_1 2 (by decide), (in_good pl_o3_3 10 rfl)⟩,
  List.forall_mem_cons.mpr ⟨⟨rfl, (in_good pl_o3_3 11 rfl), (in_good pl_o3_3 12 rfl), (in_good pl_o3_3 13 rfl), (in_good pl_o3_3 14 rfl)⟩,
  fun _ h => absurd h List.not_mem_nil⟩⟩⟩⟩⟩⟩⟩⟩⟩⟩⟩⟩
def lk_3_4 : List (Nat × Nat × Nat × Int) := [(118, 3, 48, 2), (121, 3, 49, 3), (124, 3, 41, 2), (128, 3, 52, 5), (132, 3, 43, 2), (135, 3, 23, 2), (138, 3, 24, 2), (141, 3, 40, 3), (145, 3, 54, 3), (148, 3, 55, 2), (151, 3, 59, 3), (154, 3, 60, 3)]
def PL_o3_4 : List (Nat × Jvm.Cond) := [(459, (Jvm.Cond.methodLink "LayeredDrawing$Order" (118 : Nat) ({ cls := "LayeredDrawing$Order", name := "setPlaces", desc := "(I)V" } : Jvm.MethodName))),
  (553, (Jvm.Cond.methodLink "LayeredDrawing$Order" (121 : Nat) ({ cls := "LayeredDrawing$Order", name := "swap", desc := "(II)V" } : Jvm.MethodName))),
  (444, (Jvm.Cond.methodLink "LayeredDrawing$Order" (124 : Nat) ({ cls := "LayeredDrawing$Order", name := "groupAt", desc := "(I)I" } : Jvm.MethodName))),
  (448, (Jvm.Cond.methodLink "LayeredDrawing$Order" (128 : Nat) ({ cls := "LayeredDrawing$Order", name := "putGroup", desc := "(IIII)I" } : Jvm.MethodName))),
  (452, (Jvm.Cond.methodLink "LayeredDrawing$Order" (132 : Nat) ({ cls := "LayeredDrawing$Order", name := "sizeOf", desc := "(I)I" } : Jvm.MethodName))),
  (491, (Jvm.Cond.methodLink "LayeredDrawing$Order" (135 : Nat) ({ cls := "LayeredDrawing$Layering", name := "upperPort", desc := "(I)I" } : Jvm.MethodName))),
  (495, (Jvm.Cond.methodLink "LayeredDrawing$Order" (138 : Nat) ({ cls := "LayeredDrawing$Layering", name := "lowerPort", desc := "(I)I" } : Jvm.MethodName))),
  (483, (Jvm.Cond.methodLink "LayeredDrawing$Order" (141 : Nat) ({ cls := "LayeredDrawing$Order", name := "hasPartBelow", desc := "(II)Z" } : Jvm.MethodName))),
  (487, (Jvm.Cond.methodLink "LayeredDrawing$Order" (145 : Nat) ({ cls := "LayeredDrawing$Order", name := "spotOf", desc := "(II)I" } : Jvm.MethodName))),
  (479, (Jvm.Cond.methodLink "LayeredDrawing$Order" (148 : Nat) ({ cls := "LayeredDrawing$Order", name := "countBelow", desc := "(I)I" } : Jvm.MethodName))),
  (515, (Jvm.Cond.methodLink "LayeredDrawing$Order" (151 : Nat) ({ cls := "LayeredDrawing$Order", name := "orderByWeights", desc := "(II)V" } : Jvm.MethodName))),
  (519, (Jvm.Cond.methodLink "LayeredDrawing$Order" (154 : Nat) ({ cls := "LayeredDrawing$Order", name := "weigh", desc := "(II)V" } : Jvm.MethodName)))]
theorem pl_o3_4 : PL_o3_4.all (fun q => decide (lw_tbl[q.1]? = some q.2) && goodWord q.2) = true := by decide +kernel
theorem lf_3_4 : ∀ q ∈ lk_3_4, gLink g_T g_F g_Y g_B g_R g_Cl g_E g_nests g_good cn_3 q := List.forall_mem_cons.mpr ⟨⟨1, rfl, (in_good pl_o3_4 0 rfl), mf_48.1, mf_48.2.1, mf_48.2.2.1, mf_48.2.2.2.1, mf_48.2.2.2.2.1, mf_48.2.2.2.2.2.1, mf_48.2.2.2.2.2.2⟩,
  List.forall_mem_cons.mpr ⟨⟨2, rfl, (in_good pl_o3_4 1 rfl), mf_49.1, mf_49.2.1, mf_49.2.2.1, mf_49.2.2.2.1, mf_49.2.2.2.2.1, mf_49.2.2.2.2.2.1, mf_49.2.2.2.2.2.2⟩,
  List.forall_mem_cons.mpr ⟨⟨1, rfl, (in_good pl_o3_4 2 rfl), mf_41.1, mf_41.2.1, mf_41.2.2.1, mf_41.2.2.2.1, mf_41.2.2.2.2.1, mf_41.2.2.2.2.2.1, mf_41.2.2.2.2.2.2⟩,
  List.forall_mem_cons.mpr ⟨⟨4, rfl, (in_good pl_o3_4 3 rfl), mf_52.1, mf_52.2.1, mf_52.2.2.1, mf_52.2.2.2.1, mf_52.2.2.2.2.1, mf_52.2.2.2.2.2.1, mf_52.2.2.2.2.2.2⟩,
  List.forall_mem_cons.mpr ⟨⟨1, rfl, (in_good pl_o3_4 4 rfl), mf_43.1, mf_43.2.1, mf_43.2.2.1, mf_43.2.2.2.1, mf_43.2.2.2.2.1, mf_43.2.2.2.2.2.1, mf_43.2.2.2.2.2.2⟩,
  List.forall_mem_cons.mpr ⟨⟨1, rfl, (in_good pl_o3_4 5 rfl), mf_23.1, mf_23.2.1, mf_23.2.2.1, mf_23.2.2.2.1, mf_23.2.2.2.2.1, mf_23.2.2.2.2.2.1, mf_23.2.2.2.2.2.2⟩,
  List.forall_mem_cons.mpr ⟨⟨1, rfl, (in_good pl_o3_4 6 rfl), mf_24.1, mf_24.2.1, mf_24.2.2.1, mf_24.2.2.2.1, mf_24.2.2.2.2.1, mf_24.2.2.2.2.2.1, mf_24.2.2.2.2.2.2⟩,
  List.forall_mem_cons.mpr ⟨⟨2, rfl, (in_good pl_o3_4 7 rfl), mf_40.1, mf_40.2.1, mf_40.2.2.1, mf_40.2.2.2.1, mf_40.2.2.2.2.1, mf_40.2.2.2.2.2.1, mf_40.2.2.2.2.2.2⟩,
  List.forall_mem_cons.mpr ⟨⟨2, rfl, (in_good pl_o3_4 8 rfl), mf_54.1, mf_54.2.1, mf_54.2.2.1, mf_54.2.2.2.1, mf_54.2.2.2.2.1, mf_54.2.2.2.2.2.1, mf_54.2.2.2.2.2.2⟩,
  List.forall_mem_cons.mpr ⟨⟨1, rfl, (in_good pl_o3_4 9 rfl), mf_55.1, mf_55.2.1, mf_55.2.2.1, mf_55.2.2.2.1, mf_55.2.2.2.2.1, mf_55.2.2.2.2.2.1, mf_55.2.2.2.2.2.2⟩,
  List.forall_mem_cons.mpr ⟨⟨2, rfl, (in_good pl_o3_4 10 rfl), mf_59.1, mf_59.2.1, mf_59.2.2.1, mf_59.2.2.2.1, mf_59.2.2.2.2.1, mf_59.2.2.2.2.2.1, mf_59.2.2.2.2.2.2⟩,
  List.forall_mem_cons.mpr ⟨⟨2, rfl, (in_good pl_o3_4 11 rfl), mf_60.1, mf_60.2.1, mf_60.2.2.1, mf_60.2.2.2.1, mf_60.2.2.2.2.1, mf_60.2.2.2.2.2.1, mf_60.2.2.2.2.2.2⟩,
  fun _ h => absurd h List.not_mem_nil⟩⟩⟩⟩⟩⟩⟩⟩⟩⟩⟩⟩
def lk_3_5 : List (Nat × Nat × Nat × Int) := [(157, 3, 61, 3), (160, 13, 1004, 2), (165, 7, 0, 1073741824), (166, 3, 50, 3), (169, 3, 53, 2), (173, 3, 62, 2), (176, 3, 56, 1), (180, 3, 58, 2), (184, 3, 63, 1), (187, 3, 47, 2)]
def PL_o3_5 : List (Nat × Jvm.Cond) := [(524, (Jvm.Cond.methodLink "LayeredDrawing$Order" (157 : Nat) ({ cls := "LayeredDrawing$Order", name := "isLighter", desc := "(II)Z" } : Jvm.MethodName))),
  (523, (Jvm.Cond.methodLink "LayeredDrawing$Order" (160 : Nat) ({ cls := "java/lang/Math", name := "min", desc := "(II)I" } : Jvm.MethodName))),
  (391, (Jvm.Cond.static ({ cls := "java/lang/Math", name := "min", desc := "(II)I" } : Jvm.MethodName))),
  (42, (Jvm.Cond.initialized "java/lang/Math")),
  (548, (Jvm.Cond.constant "LayeredDrawing$Order" (165 : Nat) (1073741824 : Int32))),
  (549, (Jvm.Cond.methodLink "LayeredDrawing$Order" (166 : Nat) ({ cls := "LayeredDrawing$Order", name := "moveTo", desc := "(II)V" } : Jvm.MethodName))),
  (557, (Jvm.Cond.methodLink "LayeredDrawing$Order" (169 : Nat) ({ cls := "LayeredDrawing$Order", name := "groupsTogether", desc := "(I)Z" } : Jvm.MethodName))),
  (544, (Jvm.Cond.methodLink "LayeredDrawing$Order" (173 : Nat) ({ cls := "LayeredDrawing$Order", name := "siftVertex", desc := "(I)V" } : Jvm.MethodName))),
  (569, (Jvm.Cond.methodLink "LayeredDrawing$Order" (176 : Nat) ({ cls := "LayeredDrawing$Order", name := "countAll", desc := "()I" } : Jvm.MethodName))),
  (570, (Jvm.Cond.methodLink "LayeredDrawing$Order" (180 : Nat) ({ cls := "LayeredDrawing$Order", name := "sweepThrough", desc := "(Z)V" } : Jvm.MethodName))),
  (571, (Jvm.Cond.methodLink "LayeredDrawing$Order" (184 : Nat) ({ cls := "LayeredDrawing$Order", name := "siftEveryVertex", desc := "()V" } : Jvm.MethodName))),
  (572, (Jvm.Cond.methodLink "LayeredDrawing$Order" (187 : Nat) ({ cls := "LayeredDrawing$Order", name := "takeOrder", desc := "([I)V" } : Jvm.MethodName)))]
theorem pl_o3_5 : PL_o3_5.all (fun q => decide (lw_tbl[q.1]? = some q.2) && goodWord q.2) = true := by decide +kernel
theorem lf_3_5 : ∀ q ∈ lk_3_5, gLink g_T g_F g_Y g_B g_R g_Cl g_E g_nests g_good cn_3 q := List.forall_mem_cons.mpr ⟨⟨2, rfl, (in_good pl_o3_5 0 rfl), mf_61.1, mf_61.2.1, mf_61.2.2.1, mf_61.2.2.2.1, mf_61.2.2.2.2.1, mf_61.2.2.2.2.2.1, mf_61.2.2.2.2.2.2⟩,
  List.forall_mem_cons.mpr ⟨⟨_, _, _, Or.inr (Or.inr ⟨rfl, rfl, rfl, rfl⟩), (in_good pl_o3_5 1 rfl), (in_good pl_o3_5 2 rfl), (in_good pl_o3_5 3 rfl), (in_goodc (List.mem_append_right _ (List.mem_append_left _ (List.mem_of_getElem? (i := 119) rfl))) rfl)⟩,
  List.forall_mem_cons.mpr ⟨(in_good pl_o3_5 4 rfl),
  List.forall_mem_cons.mpr ⟨⟨2, rfl, (in_good pl_o3_5 5 rfl), mf_50.1, mf_50.2.1, mf_50.2.2.1, mf_50.2.2.2.1, mf_50.2.2.2.2.1, mf_50.2.2.2.2.2.1, mf_50.2.2.2.2.2.2⟩,
  List.forall_mem_cons.mpr ⟨⟨1, rfl, (in_good pl_o3_5 6 rfl), mf_53.1, mf_53.2.1, mf_53.2.2.1, mf_53.2.2.2.1, mf_53.2.2.2.2.1, mf_53.2.2.2.2.2.1, mf_53.2.2.2.2.2.2⟩,
  List.forall_mem_cons.mpr ⟨⟨1, rfl, (in_good pl_o3_5 7 rfl), mf_62.1, mf_62.2.1, mf_62.2.2.1, mf_62.2.2.2.1, mf_62.2.2.2.2.1, mf_62.2.2.2.2.2.1, mf_62.2.2.2.2.2.2⟩,
  List.forall_mem_cons.mpr ⟨⟨0, rfl, (in_good pl_o3_5 8 rfl), mf_56.1, mf_56.2.1, mf_56.2.2.1, mf_56.2.2.2.1, mf_56.2.2.2.2.1, mf_56.2.2.2.2.2.1, mf_56.2.2.2.2.2.2⟩,
  List.forall_mem_cons.mpr ⟨⟨1, rfl, (in_good pl_o3_5 9 rfl), mf_58.1, mf_58.2.1, mf_58.2.2.1, mf_58.2.2.2.1, mf_58.2.2.2.2.1, mf_58.2.2.2.2.2.1, mf_58.2.2.2.2.2.2⟩,
  List.forall_mem_cons.mpr ⟨⟨0, rfl, (in_good pl_o3_5 10 rfl), mf_63.1, mf_63.2.1, mf_63.2.2.1, mf_63.2.2.2.1, mf_63.2.2.2.2.1, mf_63.2.2.2.2.2.1, mf_63.2.2.2.2.2.2⟩,
  List.forall_mem_cons.mpr ⟨⟨1, rfl, (in_good pl_o3_5 11 rfl), mf_47.1, mf_47.2.1, mf_47.2.2.1, mf_47.2.2.2.1, mf_47.2.2.2.2.1, mf_47.2.2.2.2.2.1, mf_47.2.2.2.2.2.2⟩,
  fun _ h => absurd h List.not_mem_nil⟩⟩⟩⟩⟩⟩⟩⟩⟩⟩
def lk_3 : List (Nat × Nat × Nat × Int) := lk_3_0 ++ (lk_3_1 ++ (lk_3_2 ++ (lk_3_3 ++ (lk_3_4 ++ (lk_3_5)))))
theorem lf_3 : ∀ q ∈ lk_3, gLink g_T g_F g_Y g_B g_R g_Cl g_E g_nests g_good cn_3 q := List.forall_mem_append.mpr ⟨lf_3_0, List.forall_mem_append.mpr ⟨lf_3_1, List.forall_mem_append.mpr ⟨lf_3_2, List.forall_mem_append.mpr ⟨lf_3_3, List.forall_mem_append.mpr ⟨lf_3_4, lf_3_5⟩⟩⟩⟩⟩
def lk_4_0 : List (Nat × Nat × Nat × Int) := [(3, 5, 1000, 1), (9, 1, 4, 0), (15, 1, 4, 1), (18, 9, 1, 9), (20, 4, 13, 1), (21, 12, 4, 2), (25, 12, 4, 3), (29, 12, 4, 4)]
def PL_o4_0 : List (Nat × Jvm.Cond) := [(297, (Jvm.Cond.methodLink "LayeredDrawing$Slot" (3 : Nat) ({ cls := "java/lang/Object", name := "<init>", desc := "()V" } : Jvm.MethodName))),
  (50, (Jvm.Cond.instanceMethod ({ cls := "java/lang/Object", name := "<init>", desc := "()V" } : Jvm.MethodName))),
  (300, (Jvm.Cond.fieldLink "LayeredDrawing$Slot" (9 : Nat) "LayeredDrawing$Slot" "filled" "Z")),
  (302, (Jvm.Cond.fieldLink "LayeredDrawing$Slot" (15 : Nat) "LayeredDrawing$Slot" "laidOut" "Z")),
  (298, (Jvm.Cond.classLink "LayeredDrawing$Slot" (18 : Nat) "LayeredDrawing$Graph")),
  (53, (Jvm.Cond.instantiable "LayeredDrawing$Graph" (9 : Nat))),
  (35, (Jvm.Cond.initialized "LayeredDrawing$Graph")),
  (304, (Jvm.Cond.fieldLink "LayeredDrawing$Slot" (21 : Nat) "LayeredDrawing$Slot" "graph" "LLayeredDrawing$Graph;")),
  (306, (Jvm.Cond.fieldLink "LayeredDrawing$Slot" (25 : Nat) "LayeredDrawing$Slot" "order" "[I")),
  (308, (Jvm.Cond.fieldLink "LayeredDrawing$Slot" (29 : Nat) "LayeredDrawing$Slot" "leftOf" "[I"))]
theorem pl_o4_0 : PL_o4_0.all (fun q => decide (lw_tbl[q.1]? = some q.2) && goodWord q.2) = true := by decide +kernel
theorem lf_4_0 : ∀ q ∈ lk_4_0, gLink g_T g_F g_Y g_B g_R g_Cl g_E g_nests g_good cn_4 q := List.forall_mem_cons.mpr ⟨⟨rfl, (in_good pl_o4_0 0 rfl), (in_good pl_o4_0 1 rfl), (in_goodc (List.mem_append_left _ (List.mem_of_getElem? (i := 18) rfl)) rfl)⟩,
  List.forall_mem_cons.mpr ⟨⟨by decide, cn_4, ct_4, 5, cy_4, cf_4 0 (by decide), (in_good pl_o4_0 2 rfl), rfl⟩,
  List.forall_mem_cons.mpr ⟨⟨by decide, cn_4, ct_4, 5, cy_4, cf_4 1 (by decide), (in_good pl_o4_0 3 rfl), rfl⟩,
  List.forall_mem_cons.mpr ⟨⟨cn_1, ct_1, 9, cy_1, rfl, by decide, rfl, ch_1, ck_1, cob_1, (in_good pl_o4_0 4 rfl), (in_good pl_o4_0 5 rfl), (in_good pl_o4_0 6 rfl)⟩,
  List.forall_mem_cons.mpr ⟨⟨by decide, 0, rfl, Or.inr ⟨"LayeredDrawing", by decide +kernel⟩, mf_13.1, mf_13.2.1, mf_13.2.2.1, mf_13.2.2.2.1, mf_13.2.2.2.2.1, mf_13.2.2.2.2.2.1, mf_13.2.2.2.2.2.2⟩,
  List.forall_mem_cons.mpr ⟨⟨by decide, cn_4, ct_4, 5, cy_4, cf_4 2 (by decide), (in_good pl_o4_0 7 rfl), rfl, rfl⟩,
  List.forall_mem_cons.mpr ⟨⟨by decide, cn_4, ct_4, 5, cy_4, cf_4 3 (by decide), (in_good pl_o4_0 8 rfl), rfl, rfl⟩,
  List.forall_mem_cons.mpr ⟨⟨by decide, cn_4, ct_4, 5, cy_4, cf_4 4 (by decide), (in_good pl_o4_0 9 rfl), rfl, rfl⟩,
  fun _ h => absurd h List.not_mem_nil⟩⟩⟩⟩⟩⟩⟩⟩
def lk_4 : List (Nat × Nat × Nat × Int) := lk_4_0
theorem lf_4 : ∀ q ∈ lk_4, gLink g_T g_F g_Y g_B g_R g_Cl g_E g_nests g_good cn_4 q := lf_4_0
def lk_5_0 : List (Nat × Nat × Nat × Int) := [(3, 5, 1000, 1), (9, 0, 5, 0), (9, 12, 5, 0), (15, 0, 5, 1), (15, 1, 5, 1), (19, 0, 5, 2), (19, 1, 5, 2), (22, 0, 5, 3), (22, 1, 5, 3), (25, 0, 5, 4), (25, 1, 5, 4), (28, 0, 5, 5)]
def PL_o5_0 : List (Nat × Jvm.Cond) := [(253, (Jvm.Cond.methodLink "LayeredDrawing$Text" (3 : Nat) ({ cls := "java/lang/Object", name := "<init>", desc := "()V" } : Jvm.MethodName))),
  (50, (Jvm.Cond.instanceMethod ({ cls := "java/lang/Object", name := "<init>", desc := "()V" } : Jvm.MethodName))),
  (254, (Jvm.Cond.fieldLink "LayeredDrawing$Text" (9 : Nat) "LayeredDrawing$Text" "signs" "[C")),
  (255, (Jvm.Cond.fieldLink "LayeredDrawing$Text" (15 : Nat) "LayeredDrawing$Text" "length" "I")),
  (257, (Jvm.Cond.fieldLink "LayeredDrawing$Text" (19 : Nat) "LayeredDrawing$Text" "position" "I")),
  (259, (Jvm.Cond.fieldLink "LayeredDrawing$Text" (22 : Nat) "LayeredDrawing$Text" "edgesFound" "I")),
  (261, (Jvm.Cond.fieldLink "LayeredDrawing$Text" (25 : Nat) "LayeredDrawing$Text" "source" "I")),
  (263, (Jvm.Cond.fieldLink "LayeredDrawing$Text" (28 : Nat) "LayeredDrawing$Text" "target" "I"))]
theorem pl_o5_0 : PL_o5_0.all (fun q => decide (lw_tbl[q.1]? = some q.2) && goodWord q.2) = true := by decide +kernel
theorem lf_5_0 : ∀ q ∈ lk_5_0, gLink g_T g_F g_Y g_B g_R g_Cl g_E g_nests g_good cn_5 q := List.forall_mem_cons.mpr ⟨⟨rfl, (in_good pl_o5_0 0 rfl), (in_good pl_o5_0 1 rfl), (in_goodc (List.mem_append_left _ (List.mem_of_getElem? (i := 18) rfl)) rfl)⟩,
  List.forall_mem_cons.mpr ⟨⟨by decide, cn_5, ct_5, 9, cy_5, cf_5 0 (by decide), (in_good pl_o5_0 2 rfl)⟩,
  List.forall_mem_cons.mpr ⟨⟨by decide, cn_5, ct_5, 9, cy_5, cf_5 0 (by decide), (in_good pl_o5_0 2 rfl), rfl, rfl⟩,
  List.forall_mem_cons.mpr ⟨⟨by decide, cn_5, ct_5, 9, cy_5, cf_5 1 (by decide), (in_good pl_o5_0 3 rfl)⟩,
  List.forall_mem_cons.mpr ⟨⟨by decide, cn_5, ct_5, 9, cy_5, cf_5 1 (by decide), (in_good pl_o5_0 3 rfl), rfl⟩,
  List.forall_mem_cons.mpr ⟨⟨by decide, cn_5, ct_5, 9, cy_5, cf_5 2 (by decide), (in_good pl_o5_0 4 rfl)⟩,
  List.forall_mem_cons.mpr ⟨⟨by decide, cn_5, ct_5, 9, cy_5, cf_5 2 (by decide), (in_good pl_o5_0 4 rfl), rfl⟩,
  List.forall_mem_cons.mpr ⟨⟨by decide, cn_5, ct_5, 9, cy_5, cf_5 3 (by decide), (in_good pl_o5_0 5 rfl)⟩,
  List.forall_mem_cons.mpr ⟨⟨by decide, cn_5, ct_5, 9, cy_5, cf_5 3 (by decide), (in_good pl_o5_0 5 rfl), rfl⟩,
  List.forall_mem_cons.mpr ⟨⟨by decide, cn_5, ct_5, 9, cy_5, cf_5 4 (by decide), (in_good pl_o5_0 6 rfl)⟩,
  List.forall_mem_cons.mpr ⟨⟨by decide, cn_5, ct_5, 9, cy_5, cf_5 4 (by decide), (in_good pl_o5_0 6 rfl), rfl⟩,
  List.forall_mem_cons.mpr ⟨⟨by decide, cn_5, ct_5, 9, cy_5, cf_5 5 (by decide), (in_good pl_o5_0 7 rfl)⟩,
  fun _ h => absurd h List.not_mem_nil⟩⟩⟩⟩⟩⟩⟩⟩⟩⟩⟩⟩
def lk_5_1 : List (Nat × Nat × Nat × Int) := [(28, 1, 5, 5), (31, 0, 5, 6), (31, 1, 5, 6), (34, 0, 5, 7), (34, 1, 5, 7), (37, 0, 5, 8), (37, 1, 5, 8), (40, 3, 69, 2), (44, 3, 70, 3), (48, 3, 71, 5), (52, 3, 73, 2), (56, 3, 72, 3)]
def PL_o5_1 : List (Nat × Jvm.Cond) := [(263, (Jvm.Cond.fieldLink "LayeredDrawing$Text" (28 : Nat) "LayeredDrawing$Text" "target" "I")),
  (265, (Jvm.Cond.fieldLink "LayeredDrawing$Text" (31 : Nat) "LayeredDrawing$Text" "sourcePort" "I")),
  (267, (Jvm.Cond.fieldLink "LayeredDrawing$Text" (34 : Nat) "LayeredDrawing$Text" "targetPort" "I")),
  (269, (Jvm.Cond.fieldLink "LayeredDrawing$Text" (37 : Nat) "LayeredDrawing$Text" "least" "I")),
  (832, (Jvm.Cond.methodLink "LayeredDrawing$Text" (40 : Nat) ({ cls := "LayeredDrawing$Text", name := "readEdge", desc := "(I)Z" } : Jvm.MethodName))),
  (836, (Jvm.Cond.methodLink "LayeredDrawing$Text" (44 : Nat) ({ cls := "LayeredDrawing$Text", name := "readNumber", desc := "(II)I" } : Jvm.MethodName))),
  (844, (Jvm.Cond.methodLink "LayeredDrawing$Text" (48 : Nat) ({ cls := "LayeredDrawing$Text", name := "readOption", desc := "(CCCI)I" } : Jvm.MethodName))),
  (848, (Jvm.Cond.methodLink "LayeredDrawing$Text" (52 : Nat) ({ cls := "LayeredDrawing$Text", name := "take", desc := "(C)Z" } : Jvm.MethodName))),
  (840, (Jvm.Cond.methodLink "LayeredDrawing$Text" (56 : Nat) ({ cls := "LayeredDrawing$Text", name := "readDigit", desc := "(CC)I" } : Jvm.MethodName)))]
theorem pl_o5_1 : PL_o5_1.all (fun q => decide (lw_tbl[q.1]? = some q.2) && goodWord q.2) = true := by decide +kernel
theorem lf_5_1 : ∀ q ∈ lk_5_1, gLink g_T g_F g_Y g_B g_R g_Cl g_E g_nests g_good cn_5 q := List.forall_mem_cons.mpr ⟨⟨by decide, cn_5, ct_5, 9, cy_5, cf_5 5 (by decide), (in_good pl_o5_1 0 rfl), rfl⟩,
  List.forall_mem_cons.mpr ⟨⟨by decide, cn_5, ct_5, 9, cy_5, cf_5 6 (by decide), (in_good pl_o5_1 1 rfl)⟩,
  List.forall_mem_cons.mpr ⟨⟨by decide, cn_5, ct_5, 9, cy_5, cf_5 6 (by decide), (in_good pl_o5_1 1 rfl), rfl⟩,
  List.forall_mem_cons.mpr ⟨⟨by decide, cn_5, ct_5, 9, cy_5, cf_5 7 (by decide), (in_good pl_o5_1 2 rfl)⟩,
  List.forall_mem_cons.mpr ⟨⟨by decide, cn_5, ct_5, 9, cy_5, cf_5 7 (by decide), (in_good pl_o5_1 2 rfl), rfl⟩,
  List.forall_mem_cons.mpr ⟨⟨by decide, cn_5, ct_5, 9, cy_5, cf_5 8 (by decide), (in_good pl_o5_1 3 rfl)⟩,
  List.forall_mem_cons.mpr ⟨⟨by decide, cn_5, ct_5, 9, cy_5, cf_5 8 (by decide), (in_good pl_o5_1 3 rfl), rfl⟩,
  List.forall_mem_cons.mpr ⟨⟨1, rfl, (in_good pl_o5_1 4 rfl), mf_69.1, mf_69.2.1, mf_69.2.2.1, mf_69.2.2.2.1, mf_69.2.2.2.2.1, mf_69.2.2.2.2.2.1, mf_69.2.2.2.2.2.2⟩,
  List.forall_mem_cons.mpr ⟨⟨2, rfl, (in_good pl_o5_1 5 rfl), mf_70.1, mf_70.2.1, mf_70.2.2.1, mf_70.2.2.2.1, mf_70.2.2.2.2.1, mf_70.2.2.2.2.2.1, mf_70.2.2.2.2.2.2⟩,
  List.forall_mem_cons.mpr ⟨⟨4, rfl, (in_good pl_o5_1 6 rfl), mf_71.1, mf_71.2.1, mf_71.2.2.1, mf_71.2.2.2.1, mf_71.2.2.2.2.1, mf_71.2.2.2.2.2.1, mf_71.2.2.2.2.2.2⟩,
  List.forall_mem_cons.mpr ⟨⟨1, rfl, (in_good pl_o5_1 7 rfl), mf_73.1, mf_73.2.1, mf_73.2.2.1, mf_73.2.2.2.1, mf_73.2.2.2.2.1, mf_73.2.2.2.2.2.1, mf_73.2.2.2.2.2.2⟩,
  List.forall_mem_cons.mpr ⟨⟨2, rfl, (in_good pl_o5_1 8 rfl), mf_72.1, mf_72.2.1, mf_72.2.2.1, mf_72.2.2.2.1, mf_72.2.2.2.2.1, mf_72.2.2.2.2.2.1, mf_72.2.2.2.2.2.2⟩,
  fun _ h => absurd h List.not_mem_nil⟩⟩⟩⟩⟩⟩⟩⟩⟩⟩⟩⟩
def lk_5 : List (Nat × Nat × Nat × Int) := lk_5_0 ++ (lk_5_1)
theorem lf_5 : ∀ q ∈ lk_5, gLink g_T g_F g_Y g_B g_R g_Cl g_E g_nests g_good cn_5 q := List.forall_mem_append.mpr ⟨lf_5_0, lf_5_1⟩
def lk_6_0 : List (Nat × Nat × Nat × Int) := [(0, 11, 4, 0), (1, 5, 1000, 1), (7, 9, 1, 9), (9, 4, 13, 1), (10, 0, 6, 0), (10, 12, 6, 0), (16, 9, 2, 11), (18, 4, 19, 2), (21, 0, 6, 1), (21, 12, 6, 1), (25, 9, 3, 16), (27, 4, 34, 3)]
def PL_o6_0 : List (Nat × Jvm.Cond) := [(49, (Jvm.Cond.methodLink "LayeredDrawing" (1 : Nat) ({ cls := "java/lang/Object", name := "<init>", desc := "()V" } : Jvm.MethodName))),
  (50, (Jvm.Cond.instanceMethod ({ cls := "java/lang/Object", name := "<init>", desc := "()V" } : Jvm.MethodName))),
  (52, (Jvm.Cond.classLink "LayeredDrawing" (7 : Nat) "LayeredDrawing$Graph")),
  (53, (Jvm.Cond.instantiable "LayeredDrawing$Graph" (9 : Nat))),
  (35, (Jvm.Cond.initialized "LayeredDrawing$Graph")),
  (321, (Jvm.Cond.fieldLink "LayeredDrawing" (10 : Nat) "LayeredDrawing" "graph" "LLayeredDrawing$Graph;")),
  (109, (Jvm.Cond.classLink "LayeredDrawing" (16 : Nat) "LayeredDrawing$Layering")),
  (110, (Jvm.Cond.instantiable "LayeredDrawing$Layering" (11 : Nat))),
  (36, (Jvm.Cond.initialized "LayeredDrawing$Layering")),
  (111, (Jvm.Cond.methodLink "LayeredDrawing" (18 : Nat) ({ cls := "LayeredDrawing$Layering", name := "<init>", desc := "(LLayeredDrawing$Graph;)V" } : Jvm.MethodName))),
  (322, (Jvm.Cond.fieldLink "LayeredDrawing" (21 : Nat) "LayeredDrawing" "layering" "LLayeredDrawing$Layering;")),
  (163, (Jvm.Cond.classLink "LayeredDrawing" (25 : Nat) "LayeredDrawing$Order")),
  (164, (Jvm.Cond.instantiable "LayeredDrawing$Order" (16 : Nat))),
  (37, (Jvm.Cond.initialized "LayeredDrawing$Order")),
  (165, (Jvm.Cond.methodLink "LayeredDrawing" (27 : Nat) ({ cls := "LayeredDrawing$Order", name := "<init>", desc := "(LLayeredDrawing$Graph;LLayeredDrawing$Layering;)V" } : Jvm.MethodName)))]
theorem pl_o6_0 : PL_o6_0.all (fun q => decide (lw_tbl[q.1]? = some q.2) && goodWord q.2) = true := by decide +kernel
theorem lf_6_0 : ∀ q ∈ lk_6_0, gLink g_T g_F g_Y g_B g_R g_Cl g_E g_nests g_good cn_6 q := List.forall_mem_cons.mpr ⟨⟨ct_4, 5, rfl, by decide⟩,
  List.forall_mem_cons.mpr ⟨⟨rfl, (in_good pl_o6_0 0 rfl), (in_good pl_o6_0 1 rfl), (in_goodc (List.mem_append_left _ (List.mem_of_getElem? (i := 18) rfl)) rfl)⟩,
  List.forall_mem_cons.mpr ⟨⟨cn_1, ct_1, 9, cy_1, rfl, by decide, rfl, ch_1, ck_1, cob_1, (in_good pl_o6_0 2 rfl), (in_good pl_o6_0 3 rfl), (in_good pl_o6_0 4 rfl)⟩,
  List.forall_mem_cons.mpr ⟨⟨by decide, 0, rfl, Or.inr ⟨"LayeredDrawing", by decide +kernel⟩, mf_13.1, mf_13.2.1, mf_13.2.2.1, mf_13.2.2.2.1, mf_13.2.2.2.2.1, mf_13.2.2.2.2.2.1, mf_13.2.2.2.2.2.2⟩,
  List.forall_mem_cons.mpr ⟨⟨by decide, cn_6, ct_6, 7, cy_6, cf_6 0 (by decide), (in_good pl_o6_0 5 rfl)⟩,
  List.forall_mem_cons.mpr ⟨⟨by decide, cn_6, ct_6, 7, cy_6, cf_6 0 (by decide), (in_good pl_o6_0 5 rfl), rfl, rfl⟩,
  List.forall_mem_cons.mpr ⟨⟨cn_2, ct_2, 11, cy_2, rfl, by decide, rfl, ch_2, ck_2, cob_2, (in_good pl_o6_0 6 rfl), (in_good pl_o6_0 7 rfl), (in_good pl_o6_0 8 rfl)⟩,
  List.forall_mem_cons.mpr ⟨⟨by decide, 1, rfl, Or.inl (in_good pl_o6_0 9 rfl), mf_19.1, mf_19.2.1, mf_19.2.2.1, mf_19.2.2.2.1, mf_19.2.2.2.2.1, mf_19.2.2.2.2.2.1, mf_19.2.2.2.2.2.2⟩,
  List.forall_mem_cons.mpr ⟨⟨by decide, cn_6, ct_6, 7, cy_6, cf_6 1 (by decide), (in_good pl_o6_0 10 rfl)⟩,
  List.forall_mem_cons.mpr ⟨⟨by decide, cn_6, ct_6, 7, cy_6, cf_6 1 (by decide), (in_good pl_o6_0 10 rfl), rfl, rfl⟩,
  List.forall_mem_cons.mpr ⟨⟨cn_3, ct_3, 16, cy_3, rfl, by decide, rfl, ch_3, ck_3, cob_3, (in_good pl_o6_0 11 rfl), (in_good pl_o6_0 12 rfl), (in_good pl_o6_0 13 rfl)⟩,
  List.forall_mem_cons.mpr ⟨⟨by decide, 2, rfl, Or.inl (in_good pl_o6_0 14 rfl), mf_34.1, mf_34.2.1, mf_34.2.2.1, mf_34.2.2.2.1, mf_34.2.2.2.2.1, mf_34.2.2.2.2.2.1, mf_34.2.2.2.2.2.2⟩,
  fun _ h => absurd h List.not_mem_nil⟩⟩⟩⟩⟩⟩⟩⟩⟩⟩⟩⟩
def lk_6_1 : List (Nat × Nat × Nat × Int) := [(30, 0, 6, 2), (30, 12, 6, 2), (34, 9, 0, 5), (36, 4, 0, 4), (39, 0, 6, 3), (39, 12, 6, 3), (43, 9, 5, 9), (45, 4, 66, 1), (46, 0, 6, 4), (46, 12, 6, 4), (50, 9, 4, 5), (50, 10, 0, 0)]
def PL_o6_1 : List (Nat × Jvm.Cond) := [(323, (Jvm.Cond.fieldLink "LayeredDrawing" (30 : Nat) "LayeredDrawing" "order" "LLayeredDrawing$Order;")),
  (225, (Jvm.Cond.classLink "LayeredDrawing" (34 : Nat) "LayeredDrawing$Coordinates")),
  (226, (Jvm.Cond.instantiable "LayeredDrawing$Coordinates" (5 : Nat))),
  (38, (Jvm.Cond.initialized "LayeredDrawing$Coordinates")),
  (227, (Jvm.Cond.methodLink "LayeredDrawing" (36 : Nat) ({ cls := "LayeredDrawing$Coordinates", name := "<init>", desc := "(LLayeredDrawing$Graph;LLayeredDrawing$Layering;LLayeredDrawing$Order;)V" } : Jvm.MethodName))),
  (324, (Jvm.Cond.fieldLink "LayeredDrawing" (39 : Nat) "LayeredDrawing" "coordinates" "LLayeredDrawing$Coordinates;")),
  (248, (Jvm.Cond.classLink "LayeredDrawing" (43 : Nat) "LayeredDrawing$Text")),
  (249, (Jvm.Cond.instantiable "LayeredDrawing$Text" (9 : Nat))),
  (39, (Jvm.Cond.initialized "LayeredDrawing$Text")),
  (325, (Jvm.Cond.fieldLink "LayeredDrawing" (46 : Nat) "LayeredDrawing" "text" "LLayeredDrawing$Text;")),
  (291, (Jvm.Cond.classLink "LayeredDrawing" (50 : Nat) "LayeredDrawing$Slot")),
  (293, (Jvm.Cond.instantiable "LayeredDrawing$Slot" (5 : Nat))),
  (40, (Jvm.Cond.initialized "LayeredDrawing$Slot"))]
theorem pl_o6_1 : PL_o6_1.all (fun q => decide (lw_tbl[q.1]? = some q.2) && goodWord q.2) = true := by decide +kernel
theorem lf_6_1 : ∀ q ∈ lk_6_1, gLink g_T g_F g_Y g_B g_R g_Cl g_E g_nests g_good cn_6 q := List.forall_mem_cons.mpr ⟨⟨by decide, cn_6, ct_6, 7, cy_6, cf_6 2 (by decide), (in_good pl_o6_1 0 rfl)⟩,
  List.forall_mem_cons.mpr ⟨⟨by decide, cn_6, ct_6, 7, cy_6, cf_6 2 (by decide), (in_good pl_o6_1 0 rfl), rfl, rfl⟩,
  List.forall_mem_cons.mpr ⟨⟨cn_0, ct_0, 5, cy_0, rfl, by decide, rfl, ch_0, ck_0, cob_0, (in_good pl_o6_1 1 rfl), (in_good pl_o6_1 2 rfl), (in_good pl_o6_1 3 rfl)⟩,
  List.forall_mem_cons.mpr ⟨⟨by decide, 3, rfl, Or.inl (in_good pl_o6_1 4 rfl), mf_0.1, mf_0.2.1, mf_0.2.2.1, mf_0.2.2.2.1, mf_0.2.2.2.2.1, mf_0.2.2.2.2.2.1, mf_0.2.2.2.2.2.2⟩,
  List.forall_mem_cons.mpr ⟨⟨by decide, cn_6, ct_6, 7, cy_6, cf_6 3 (by decide), (in_good pl_o6_1 5 rfl)⟩,
  List.forall_mem_cons.mpr ⟨⟨by decide, cn_6, ct_6, 7, cy_6, cf_6 3 (by decide), (in_good pl_o6_1 5 rfl), rfl, rfl⟩,
  List.forall_mem_cons.mpr ⟨⟨cn_5, ct_5, 9, cy_5, rfl, by decide, rfl, ch_5, ck_5, cob_5, (in_good pl_o6_1 6 rfl), (in_good pl_o6_1 7 rfl), (in_good pl_o6_1 8 rfl)⟩,
  List.forall_mem_cons.mpr ⟨⟨by decide, 0, rfl, Or.inr ⟨"LayeredDrawing", by decide +kernel⟩, mf_66.1, mf_66.2.1, mf_66.2.2.1, mf_66.2.2.2.1, mf_66.2.2.2.2.1, mf_66.2.2.2.2.2.1, mf_66.2.2.2.2.2.2⟩,
  List.forall_mem_cons.mpr ⟨⟨by decide, cn_6, ct_6, 7, cy_6, cf_6 4 (by decide), (in_good pl_o6_1 9 rfl)⟩,
  List.forall_mem_cons.mpr ⟨⟨by decide, cn_6, ct_6, 7, cy_6, cf_6 4 (by decide), (in_good pl_o6_1 9 rfl), rfl, rfl⟩,
  List.forall_mem_cons.mpr ⟨⟨cn_4, ct_4, 5, cy_4, rfl, by decide, rfl, ch_4, ck_4, cob_4, (in_good pl_o6_1 10 rfl), (in_good pl_o6_1 11 rfl), (in_good pl_o6_1 12 rfl)⟩,
  List.forall_mem_cons.mpr ⟨(in_good pl_o6_1 10 rfl),
  fun _ h => absurd h List.not_mem_nil⟩⟩⟩⟩⟩⟩⟩⟩⟩⟩⟩⟩
def lk_6_2 : List (Nat × Nat × Nat × Int) := [(52, 0, 6, 5), (52, 12, 6, 5), (56, 4, 65, 1), (57, 0, 6, 6), (57, 1, 6, 6), (61, 0, 1, 0), (68, 3, 116, 1), (71, 3, 15, 3), (75, 3, 118, 2), (79, 2, 121, 1), (82, 0, 1, 1), (82, 1, 1, 1)]
def PL_o6_2 : List (Nat × Jvm.Cond) := [(326, (Jvm.Cond.fieldLink "LayeredDrawing" (52 : Nat) "LayeredDrawing" "slots" "[LLayeredDrawing$Slot;")),
  (327, (Jvm.Cond.fieldLink "LayeredDrawing" (57 : Nat) "LayeredDrawing" "laidOut" "Z")),
  (61, (Jvm.Cond.fieldLink "LayeredDrawing" (61 : Nat) "LayeredDrawing$Graph" "nodeCount" "I")),
  (347, (Jvm.Cond.methodLink "LayeredDrawing" (68 : Nat) ({ cls := "LayeredDrawing", name := "graphChanged", desc := "()V" } : Jvm.MethodName))),
  (662, (Jvm.Cond.methodLink "LayeredDrawing" (71 : Nat) ({ cls := "LayeredDrawing$Graph", name := "putNode", desc := "(II)I" } : Jvm.MethodName))),
  (404, (Jvm.Cond.methodLink "LayeredDrawing" (75 : Nat) ({ cls := "LayeredDrawing", name := "isNode", desc := "(I)Z" } : Jvm.MethodName))),
  (670, (Jvm.Cond.methodLink "LayeredDrawing" (79 : Nat) ({ cls := "LayeredDrawing", name := "isPort", desc := "(I)Z" } : Jvm.MethodName))),
  (67, (Jvm.Cond.fieldLink "LayeredDrawing" (82 : Nat) "LayeredDrawing$Graph" "edgeCount" "I"))]
theorem pl_o6_2 : PL_o6_2.all (fun q => decide (lw_tbl[q.1]? = some q.2) && goodWord q.2) = true := by decide +kernel
theorem lf_6_2 : ∀ q ∈ lk_6_2, gLink g_T g_F g_Y g_B g_R g_Cl g_E g_nests g_good cn_6 q := List.forall_mem_cons.mpr ⟨⟨by decide, cn_6, ct_6, 7, cy_6, cf_6 5 (by decide), (in_good pl_o6_2 0 rfl)⟩,
  List.forall_mem_cons.mpr ⟨⟨by decide, cn_6, ct_6, 7, cy_6, cf_6 5 (by decide), (in_good pl_o6_2 0 rfl), rfl, rfl⟩,
  List.forall_mem_cons.mpr ⟨⟨by decide, 0, rfl, Or.inr ⟨"LayeredDrawing", by decide +kernel⟩, mf_65.1, mf_65.2.1, mf_65.2.2.1, mf_65.2.2.2.1, mf_65.2.2.2.2.1, mf_65.2.2.2.2.2.1, mf_65.2.2.2.2.2.2⟩,
  List.forall_mem_cons.mpr ⟨⟨by decide, cn_6, ct_6, 7, cy_6, cf_6 6 (by decide), (in_good pl_o6_2 1 rfl)⟩,
  List.forall_mem_cons.mpr ⟨⟨by decide, cn_6, ct_6, 7, cy_6, cf_6 6 (by decide), (in_good pl_o6_2 1 rfl), rfl⟩,
  List.forall_mem_cons.mpr ⟨⟨by decide, cn_1, ct_1, 9, cy_1, cf_1 0 (by decide), (in_good pl_o6_2 2 rfl)⟩,
  List.forall_mem_cons.mpr ⟨⟨0, rfl, (in_good pl_o6_2 3 rfl), mf_116.1, mf_116.2.1, mf_116.2.2.1, mf_116.2.2.2.1, mf_116.2.2.2.2.1, mf_116.2.2.2.2.2.1, mf_116.2.2.2.2.2.2⟩,
  List.forall_mem_cons.mpr ⟨⟨2, rfl, (in_good pl_o6_2 4 rfl), mf_15.1, mf_15.2.1, mf_15.2.2.1, mf_15.2.2.2.1, mf_15.2.2.2.2.1, mf_15.2.2.2.2.2.1, mf_15.2.2.2.2.2.2⟩,
  List.forall_mem_cons.mpr ⟨⟨1, rfl, (in_good pl_o6_2 5 rfl), mf_118.1, mf_118.2.1, mf_118.2.2.1, mf_118.2.2.2.1, mf_118.2.2.2.2.1, mf_118.2.2.2.2.2.1, mf_118.2.2.2.2.2.2⟩,
  List.forall_mem_cons.mpr ⟨⟨by decide, (in_good pl_o6_2 6 rfl), mf_121.1, mf_121.2.1, mf_121.2.2.1, mf_121.2.2.2.1, mf_121.2.2.2.2⟩,
  List.forall_mem_cons.mpr ⟨⟨by decide, cn_1, ct_1, 9, cy_1, cf_1 1 (by decide), (in_good pl_o6_2 7 rfl)⟩,
  List.forall_mem_cons.mpr ⟨⟨by decide, cn_1, ct_1, 9, cy_1, cf_1 1 (by decide), (in_good pl_o6_2 7 rfl), rfl⟩,
  fun _ h => absurd h List.not_mem_nil⟩⟩⟩⟩⟩⟩⟩⟩⟩⟩⟩⟩
def lk_6_3 : List (Nat × Nat × Nat × Int) := [(85, 3, 16, 6), (89, 0, 1, 3), (93, 3, 119, 2), (96, 0, 1, 4), (99, 0, 1, 5), (102, 0, 1, 6), (105, 0, 1, 7), (108, 0, 1, 8), (111, 0, 2, 2), (115, 0, 2, 5), (118, 3, 21, 2), (122, 3, 22, 1)]
def PL_o6_3 : List (Nat × Jvm.Cond) := [(673, (Jvm.Cond.methodLink "LayeredDrawing" (85 : Nat) ({ cls := "LayeredDrawing$Graph", name := "putEdge", desc := "(IIIII)I" } : Jvm.MethodName))),
  (71, (Jvm.Cond.fieldLink "LayeredDrawing" (89 : Nat) "LayeredDrawing$Graph" "groupOf" "[I")),
  (684, (Jvm.Cond.methodLink "LayeredDrawing" (93 : Nat) ({ cls := "LayeredDrawing", name := "isEdge", desc := "(I)Z" } : Jvm.MethodName))),
  (76, (Jvm.Cond.fieldLink "LayeredDrawing" (96 : Nat) "LayeredDrawing$Graph" "source" "[I")),
  (79, (Jvm.Cond.fieldLink "LayeredDrawing" (99 : Nat) "LayeredDrawing$Graph" "target" "[I")),
  (82, (Jvm.Cond.fieldLink "LayeredDrawing" (102 : Nat) "LayeredDrawing$Graph" "sourcePort" "[I")),
  (85, (Jvm.Cond.fieldLink "LayeredDrawing" (105 : Nat) "LayeredDrawing$Graph" "targetPort" "[I")),
  (87, (Jvm.Cond.fieldLink "LayeredDrawing" (108 : Nat) "LayeredDrawing$Graph" "least" "[I")),
  (121, (Jvm.Cond.fieldLink "LayeredDrawing" (111 : Nat) "LayeredDrawing$Layering" "turned" "[Z")),
  (128, (Jvm.Cond.fieldLink "LayeredDrawing" (115 : Nat) "LayeredDrawing$Layering" "layer" "[I")),
  (634, (Jvm.Cond.methodLink "LayeredDrawing" (118 : Nat) ({ cls := "LayeredDrawing$Layering", name := "span", desc := "(I)I" } : Jvm.MethodName))),
  (420, (Jvm.Cond.methodLink "LayeredDrawing" (122 : Nat) ({ cls := "LayeredDrawing$Layering", name := "spanOfAll", desc := "()I" } : Jvm.MethodName)))]
theorem pl_o6_3 : PL_o6_3.all (fun q => decide (lw_tbl[q.1]? = some q.2) && goodWord q.2) = true := by decide +kernel
theorem lf_6_3 : ∀ q ∈ lk_6_3, gLink g_T g_F g_Y g_B g_R g_Cl g_E g_nests g_good cn_6 q := List.forall_mem_cons.mpr ⟨⟨5, rfl, (in_good pl_o6_3 0 rfl), mf_16.1, mf_16.2.1, mf_16.2.2.1, mf_16.2.2.2.1, mf_16.2.2.2.2.1, mf_16.2.2.2.2.2.1, mf_16.2.2.2.2.2.2⟩,
  List.forall_mem_cons.mpr ⟨⟨by decide, cn_1, ct_1, 9, cy_1, cf_1 3 (by decide), (in_good pl_o6_3 1 rfl)⟩,
  List.forall_mem_cons.mpr ⟨⟨1, rfl, (in_good pl_o6_3 2 rfl), mf_119.1, mf_119.2.1, mf_119.2.2.1, mf_119.2.2.2.1, mf_119.2.2.2.2.1, mf_119.2.2.2.2.2.1, mf_119.2.2.2.2.2.2⟩,
  List.forall_mem_cons.mpr ⟨⟨by decide, cn_1, ct_1, 9, cy_1, cf_1 4 (by decide), (in_good pl_o6_3 3 rfl)⟩,
  List.forall_mem_cons.mpr ⟨⟨by decide, cn_1, ct_1, 9, cy_1, cf_1 5 (by decide), (in_good pl_o6_3 4 rfl)⟩,
  List.forall_mem_cons.mpr ⟨⟨by decide, cn_1, ct_1, 9, cy_1, cf_1 6 (by decide), (in_good pl_o6_3 5 rfl)⟩,
  List.forall_mem_cons.mpr ⟨⟨by decide, cn_1, ct_1, 9, cy_1, cf_1 7 (by decide), (in_good pl_o6_3 6 rfl)⟩,
  List.forall_mem_cons.mpr ⟨⟨by decide, cn_1, ct_1, 9, cy_1, cf_1 8 (by decide), (in_good pl_o6_3 7 rfl)⟩,
  List.forall_mem_cons.mpr ⟨⟨by decide, cn_2, ct_2, 11, cy_2, cf_2 2 (by decide), (in_good pl_o6_3 8 rfl)⟩,
  List.forall_mem_cons.mpr ⟨⟨by decide, cn_2, ct_2, 11, cy_2, cf_2 5 (by decide), (in_good pl_o6_3 9 rfl)⟩,
  List.forall_mem_cons.mpr ⟨⟨1, rfl, (in_good pl_o6_3 10 rfl), mf_21.1, mf_21.2.1, mf_21.2.2.1, mf_21.2.2.2.1, mf_21.2.2.2.2.1, mf_21.2.2.2.2.2.1, mf_21.2.2.2.2.2.2⟩,
  List.forall_mem_cons.mpr ⟨⟨0, rfl, (in_good pl_o6_3 11 rfl), mf_22.1, mf_22.2.1, mf_22.2.2.1, mf_22.2.2.2.1, mf_22.2.2.2.2.1, mf_22.2.2.2.2.2.1, mf_22.2.2.2.2.2.2⟩,
  fun _ h => absurd h List.not_mem_nil⟩⟩⟩⟩⟩⟩⟩⟩⟩⟩⟩⟩
def lk_6_4 : List (Nat × Nat × Nat × Int) := [(126, 0, 2, 1), (129, 3, 35, 1), (132, 3, 1, 1), (135, 0, 3, 2), (138, 3, 120, 2), (141, 3, 43, 2), (144, 0, 3, 3), (147, 3, 44, 3), (150, 3, 38, 2), (153, 0, 3, 8), (156, 3, 55, 2), (159, 3, 56, 1)]
def PL_o6_4 : List (Nat × Jvm.Cond) := [(119, (Jvm.Cond.fieldLink "LayeredDrawing" (126 : Nat) "LayeredDrawing$Layering" "layerCount" "I")),
  (428, (Jvm.Cond.methodLink "LayeredDrawing" (129 : Nat) ({ cls := "LayeredDrawing$Order", name := "build", desc := "()V" } : Jvm.MethodName))),
  (463, (Jvm.Cond.methodLink "LayeredDrawing" (132 : Nat) ({ cls := "LayeredDrawing$Coordinates", name := "pack", desc := "()V" } : Jvm.MethodName))),
  (173, (Jvm.Cond.fieldLink "LayeredDrawing" (135 : Nat) "LayeredDrawing$Order" "vertexCount" "I")),
  (704, (Jvm.Cond.methodLink "LayeredDrawing" (138 : Nat) ({ cls := "LayeredDrawing", name := "isLayer", desc := "(I)Z" } : Jvm.MethodName))),
  (713, (Jvm.Cond.methodLink "LayeredDrawing" (141 : Nat) ({ cls := "LayeredDrawing$Order", name := "sizeOf", desc := "(I)I" } : Jvm.MethodName))),
  (175, (Jvm.Cond.fieldLink "LayeredDrawing" (144 : Nat) "LayeredDrawing$Order" "nameOf" "[I")),
  (718, (Jvm.Cond.methodLink "LayeredDrawing" (147 : Nat) ({ cls := "LayeredDrawing$Order", name := "at", desc := "(II)I" } : Jvm.MethodName))),
  (726, (Jvm.Cond.methodLink "LayeredDrawing" (150 : Nat) ({ cls := "LayeredDrawing$Order", name := "named", desc := "(I)I" } : Jvm.MethodName))),
  (184, (Jvm.Cond.fieldLink "LayeredDrawing" (153 : Nat) "LayeredDrawing$Order" "place" "[I")),
  (708, (Jvm.Cond.methodLink "LayeredDrawing" (156 : Nat) ({ cls := "LayeredDrawing$Order", name := "countBelow", desc := "(I)I" } : Jvm.MethodName))),
  (475, (Jvm.Cond.methodLink "LayeredDrawing" (159 : Nat) ({ cls := "LayeredDrawing$Order", name := "countAll", desc := "()I" } : Jvm.MethodName)))]
theorem pl_o6_4 : PL_o6_4.all (fun q => decide (lw_tbl[q.1]? = some q.2) && goodWord q.2) = true := by decide +kernel
theorem lf_6_4 : ∀ q ∈ lk_6_4, gLink g_T g_F g_Y g_B g_R g_Cl g_E g_nests g_good cn_6 q := List.forall_mem_cons.mpr ⟨⟨by decide, cn_2, ct_2, 11, cy_2, cf_2 1 (by decide), (in_good pl_o6_4 0 rfl)⟩,
  List.forall_mem_cons.mpr ⟨⟨0, rfl, (in_good pl_o6_4 1 rfl), mf_35.1, mf_35.2.1, mf_35.2.2.1, mf_35.2.2.2.1, mf_35.2.2.2.2.1, mf_35.2.2.2.2.2.1, mf_35.2.2.2.2.2.2⟩,
  List.forall_mem_cons.mpr ⟨⟨0, rfl, (in_good pl_o6_4 2 rfl), mf_1.1, mf_1.2.1, mf_1.2.2.1, mf_1.2.2.2.1, mf_1.2.2.2.2.1, mf_1.2.2.2.2.2.1, mf_1.2.2.2.2.2.2⟩,
  List.forall_mem_cons.mpr ⟨⟨by decide, cn_3, ct_3, 16, cy_3, cf_3 2 (by decide), (in_good pl_o6_4 3 rfl)⟩,
  List.forall_mem_cons.mpr ⟨⟨1, rfl, (in_good pl_o6_4 4 rfl), mf_120.1, mf_120.2.1, mf_120.2.2.1, mf_120.2.2.2.1, mf_120.2.2.2.2.1, mf_120.2.2.2.2.2.1, mf_120.2.2.2.2.2.2⟩,
  List.forall_mem_cons.mpr ⟨⟨1, rfl, (in_good pl_o6_4 5 rfl), mf_43.1, mf_43.2.1, mf_43.2.2.1, mf_43.2.2.2.1, mf_43.2.2.2.2.1, mf_43.2.2.2.2.2.1, mf_43.2.2.2.2.2.2⟩,
  List.forall_mem_cons.mpr ⟨⟨by decide, cn_3, ct_3, 16, cy_3, cf_3 3 (by decide), (in_good pl_o6_4 6 rfl)⟩,
  List.forall_mem_cons.mpr ⟨⟨2, rfl, (in_good pl_o6_4 7 rfl), mf_44.1, mf_44.2.1, mf_44.2.2.1, mf_44.2.2.2.1, mf_44.2.2.2.2.1, mf_44.2.2.2.2.2.1, mf_44.2.2.2.2.2.2⟩,
  List.forall_mem_cons.mpr ⟨⟨1, rfl, (in_good pl_o6_4 8 rfl), mf_38.1, mf_38.2.1, mf_38.2.2.1, mf_38.2.2.2.1, mf_38.2.2.2.2.1, mf_38.2.2.2.2.2.1, mf_38.2.2.2.2.2.2⟩,
  List.forall_mem_cons.mpr ⟨⟨by decide, cn_3, ct_3, 16, cy_3, cf_3 8 (by decide), (in_good pl_o6_4 9 rfl)⟩,
  List.forall_mem_cons.mpr ⟨⟨1, rfl, (in_good pl_o6_4 10 rfl), mf_55.1, mf_55.2.1, mf_55.2.2.1, mf_55.2.2.2.1, mf_55.2.2.2.2.1, mf_55.2.2.2.2.2.1, mf_55.2.2.2.2.2.2⟩,
  List.forall_mem_cons.mpr ⟨⟨0, rfl, (in_good pl_o6_4 11 rfl), mf_56.1, mf_56.2.1, mf_56.2.2.1, mf_56.2.2.2.1, mf_56.2.2.2.2.1, mf_56.2.2.2.2.2.1, mf_56.2.2.2.2.2.2⟩,
  fun _ h => absurd h List.not_mem_nil⟩⟩⟩⟩⟩⟩⟩⟩⟩⟩⟩⟩
def lk_6_5 : List (Nat × Nat × Nat × Int) := [(162, 3, 57, 3), (165, 3, 45, 1), (168, 3, 58, 2), (172, 3, 117, 1), (175, 3, 62, 2), (179, 3, 63, 1), (182, 3, 64, 2), (185, 3, 49, 3), (189, 3, 53, 2), (192, 3, 2, 1), (195, 3, 6, 1), (198, 0, 0, 3)]
def PL_o6_5 : List (Nat × Jvm.Cond) := [(745, (Jvm.Cond.methodLink "LayeredDrawing" (162 : Nat) ({ cls := "LayeredDrawing$Order", name := "countBetween", desc := "(II)I" } : Jvm.MethodName))),
  (507, (Jvm.Cond.methodLink "LayeredDrawing" (165 : Nat) ({ cls := "LayeredDrawing$Order", name := "remember", desc := "()V" } : Jvm.MethodName))),
  (511, (Jvm.Cond.methodLink "LayeredDrawing" (168 : Nat) ({ cls := "LayeredDrawing$Order", name := "sweepThrough", desc := "(Z)V" } : Jvm.MethodName))),
  (528, (Jvm.Cond.methodLink "LayeredDrawing" (172 : Nat) ({ cls := "LayeredDrawing", name := "packIfReordered", desc := "()V" } : Jvm.MethodName))),
  (864, (Jvm.Cond.methodLink "LayeredDrawing" (175 : Nat) ({ cls := "LayeredDrawing$Order", name := "siftVertex", desc := "(I)V" } : Jvm.MethodName))),
  (540, (Jvm.Cond.methodLink "LayeredDrawing" (179 : Nat) ({ cls := "LayeredDrawing$Order", name := "siftEveryVertex", desc := "()V" } : Jvm.MethodName))),
  (565, (Jvm.Cond.methodLink "LayeredDrawing" (182 : Nat) ({ cls := "LayeredDrawing$Order", name := "improve", desc := "(I)I" } : Jvm.MethodName))),
  (869, (Jvm.Cond.methodLink "LayeredDrawing" (185 : Nat) ({ cls := "LayeredDrawing$Order", name := "swap", desc := "(II)V" } : Jvm.MethodName))),
  (870, (Jvm.Cond.methodLink "LayeredDrawing" (189 : Nat) ({ cls := "LayeredDrawing$Order", name := "groupsTogether", desc := "(I)Z" } : Jvm.MethodName))),
  (580, (Jvm.Cond.methodLink "LayeredDrawing" (192 : Nat) ({ cls := "LayeredDrawing$Coordinates", name := "alignLayers", desc := "()V" } : Jvm.MethodName))),
  (597, (Jvm.Cond.methodLink "LayeredDrawing" (195 : Nat) ({ cls := "LayeredDrawing$Coordinates", name := "greatestRight", desc := "()I" } : Jvm.MethodName))),
  (235, (Jvm.Cond.fieldLink "LayeredDrawing" (198 : Nat) "LayeredDrawing$Coordinates" "leftOf" "[I"))]
theorem pl_o6_5 : PL_o6_5.all (fun q => decide (lw_tbl[q.1]? = some q.2) && goodWord q.2) = true := by decide +kernel
theorem lf_6_5 : ∀ q ∈ lk_6_5, gLink g_T g_F g_Y g_B g_R g_Cl g_E g_nests g_good cn_6 q := List.forall_mem_cons.mpr ⟨⟨2, rfl, (in_good pl_o6_5 0 rfl), mf_57.1, mf_57.2.1, mf_57.2.2.1, mf_57.2.2.2.1, mf_57.2.2.2.2.1, mf_57.2.2.2.2.2.1, mf_57.2.2.2.2.2.2⟩,
  List.forall_mem_cons.mpr ⟨⟨0, rfl, (in_good pl_o6_5 1 rfl), mf_45.1, mf_45.2.1, mf_45.2.2.1, mf_45.2.2.2.1, mf_45.2.2.2.2.1, mf_45.2.2.2.2.2.1, mf_45.2.2.2.2.2.2⟩,
  List.forall_mem_cons.mpr ⟨⟨1, rfl, (in_good pl_o6_5 2 rfl), mf_58.1, mf_58.2.1, mf_58.2.2.1, mf_58.2.2.2.1, mf_58.2.2.2.2.1, mf_58.2.2.2.2.2.1, mf_58.2.2.2.2.2.2⟩,
  List.forall_mem_cons.mpr ⟨⟨0, rfl, (in_good pl_o6_5 3 rfl), mf_117.1, mf_117.2.1, mf_117.2.2.1, mf_117.2.2.2.1, mf_117.2.2.2.2.1, mf_117.2.2.2.2.2.1, mf_117.2.2.2.2.2.2⟩,
  List.forall_mem_cons.mpr ⟨⟨1, rfl, (in_good pl_o6_5 4 rfl), mf_62.1, mf_62.2.1, mf_62.2.2.1, mf_62.2.2.2.1, mf_62.2.2.2.2.1, mf_62.2.2.2.2.2.1, mf_62.2.2.2.2.2.2⟩,
  List.forall_mem_cons.mpr ⟨⟨0, rfl, (in_good pl_o6_5 5 rfl), mf_63.1, mf_63.2.1, mf_63.2.2.1, mf_63.2.2.2.1, mf_63.2.2.2.2.1, mf_63.2.2.2.2.2.1, mf_63.2.2.2.2.2.2⟩,
  List.forall_mem_cons.mpr ⟨⟨1, rfl, (in_good pl_o6_5 6 rfl), mf_64.1, mf_64.2.1, mf_64.2.2.1, mf_64.2.2.2.1, mf_64.2.2.2.2.1, mf_64.2.2.2.2.2.1, mf_64.2.2.2.2.2.2⟩,
  List.forall_mem_cons.mpr ⟨⟨2, rfl, (in_good pl_o6_5 7 rfl), mf_49.1, mf_49.2.1, mf_49.2.2.1, mf_49.2.2.2.1, mf_49.2.2.2.2.1, mf_49.2.2.2.2.2.1, mf_49.2.2.2.2.2.2⟩,
  List.forall_mem_cons.mpr ⟨⟨1, rfl, (in_good pl_o6_5 8 rfl), mf_53.1, mf_53.2.1, mf_53.2.2.1, mf_53.2.2.2.1, mf_53.2.2.2.2.1, mf_53.2.2.2.2.2.1, mf_53.2.2.2.2.2.2⟩,
  List.forall_mem_cons.mpr ⟨⟨0, rfl, (in_good pl_o6_5 9 rfl), mf_2.1, mf_2.2.1, mf_2.2.2.1, mf_2.2.2.2.1, mf_2.2.2.2.2.1, mf_2.2.2.2.2.2.1, mf_2.2.2.2.2.2.2⟩,
  List.forall_mem_cons.mpr ⟨⟨0, rfl, (in_good pl_o6_5 10 rfl), mf_6.1, mf_6.2.1, mf_6.2.2.1, mf_6.2.2.2.1, mf_6.2.2.2.2.1, mf_6.2.2.2.2.2.1, mf_6.2.2.2.2.2.2⟩,
  List.forall_mem_cons.mpr ⟨⟨by decide, cn_0, ct_0, 5, cy_0, cf_0 3 (by decide), (in_good pl_o6_5 11 rfl)⟩,
  fun _ h => absurd h List.not_mem_nil⟩⟩⟩⟩⟩⟩⟩⟩⟩⟩⟩⟩
def lk_6_6 : List (Nat × Nat × Nat × Int) := [(201, 3, 8, 1), (204, 3, 9, 2), (207, 2, 122, 1), (210, 3, 17, 2), (213, 3, 10, 3), (216, 3, 12, 2), (219, 0, 5, 1), (219, 1, 5, 1), (222, 3, 67, 2), (226, 3, 68, 2), (229, 0, 5, 3), (232, 1, 5, 2)]
def PL_o6_6 : List (Nat × Jvm.Cond) := [(639, (Jvm.Cond.methodLink "LayeredDrawing" (201 : Nat) ({ cls := "LayeredDrawing$Coordinates", name := "sumOfShifts", desc := "()I" } : Jvm.MethodName))),
  (763, (Jvm.Cond.methodLink "LayeredDrawing" (204 : Nat) ({ cls := "LayeredDrawing$Coordinates", name := "straightParts", desc := "(I)I" } : Jvm.MethodName))),
  (779, (Jvm.Cond.methodLink "LayeredDrawing" (207 : Nat) ({ cls := "LayeredDrawing", name := "isGroup", desc := "(I)Z" } : Jvm.MethodName))),
  (782, (Jvm.Cond.methodLink "LayeredDrawing" (210 : Nat) ({ cls := "LayeredDrawing$Graph", name := "hasGroup", desc := "(I)Z" } : Jvm.MethodName))),
  (786, (Jvm.Cond.methodLink "LayeredDrawing" (213 : Nat) ({ cls := "LayeredDrawing$Coordinates", name := "sideOf", desc := "(II)I" } : Jvm.MethodName))),
  (798, (Jvm.Cond.methodLink "LayeredDrawing" (216 : Nat) ({ cls := "LayeredDrawing$Coordinates", name := "countIntruders", desc := "(I)I" } : Jvm.MethodName))),
  (256, (Jvm.Cond.fieldLink "LayeredDrawing" (219 : Nat) "LayeredDrawing$Text" "length" "I")),
  (820, (Jvm.Cond.methodLink "LayeredDrawing" (222 : Nat) ({ cls := "LayeredDrawing$Text", name := "put", desc := "(C)V" } : Jvm.MethodName))),
  (828, (Jvm.Cond.methodLink "LayeredDrawing" (226 : Nat) ({ cls := "LayeredDrawing$Text", name := "findFault", desc := "(I)I" } : Jvm.MethodName))),
  (260, (Jvm.Cond.fieldLink "LayeredDrawing" (229 : Nat) "LayeredDrawing$Text" "edgesFound" "I")),
  (258, (Jvm.Cond.fieldLink "LayeredDrawing" (232 : Nat) "LayeredDrawing$Text" "position" "I"))]
theorem pl_o6_6 : PL_o6_6.all (fun q => decide (lw_tbl[q.1]? = some q.2) && goodWord q.2) = true := by decide +kernel
theorem lf_6_6 : ∀ q ∈ lk_6_6, gLink g_T g_F g_Y g_B g_R g_Cl g_E g_nests g_good cn_6 q := List.forall_mem_cons.mpr ⟨⟨0, rfl, (in_good pl_o6_6 0 rfl), mf_8.1, mf_8.2.1, mf_8.2.2.1, mf_8.2.2.2.1, mf_8.2.2.2.2.1, mf_8.2.2.2.2.2.1, mf_8.2.2.2.2.2.2⟩,
  List.forall_mem_cons.mpr ⟨⟨1, rfl, (in_good pl_o6_6 1 rfl), mf_9.1, mf_9.2.1, mf_9.2.2.1, mf_9.2.2.2.1, mf_9.2.2.2.2.1, mf_9.2.2.2.2.2.1, mf_9.2.2.2.2.2.2⟩,
  List.forall_mem_cons.mpr ⟨⟨by decide, (in_good pl_o6_6 2 rfl), mf_122.1, mf_122.2.1, mf_122.2.2.1, mf_122.2.2.2.1, mf_122.2.2.2.2⟩,
  List.forall_mem_cons.mpr ⟨⟨1, rfl, (in_good pl_o6_6 3 rfl), mf_17.1, mf_17.2.1, mf_17.2.2.1, mf_17.2.2.2.1, mf_17.2.2.2.2.1, mf_17.2.2.2.2.2.1, mf_17.2.2.2.2.2.2⟩,
  List.forall_mem_cons.mpr ⟨⟨2, rfl, (in_good pl_o6_6 4 rfl), mf_10.1, mf_10.2.1, mf_10.2.2.1, mf_10.2.2.2.1, mf_10.2.2.2.2.1, mf_10.2.2.2.2.2.1, mf_10.2.2.2.2.2.2⟩,
  List.forall_mem_cons.mpr ⟨⟨1, rfl, (in_good pl_o6_6 5 rfl), mf_12.1, mf_12.2.1, mf_12.2.2.1, mf_12.2.2.2.1, mf_12.2.2.2.2.1, mf_12.2.2.2.2.2.1, mf_12.2.2.2.2.2.2⟩,
  List.forall_mem_cons.mpr ⟨⟨by decide, cn_5, ct_5, 9, cy_5, cf_5 1 (by decide), (in_good pl_o6_6 6 rfl)⟩,
  List.forall_mem_cons.mpr ⟨⟨by decide, cn_5, ct_5, 9, cy_5, cf_5 1 (by decide), (in_good pl_o6_6 6 rfl), rfl⟩,
  List.forall_mem_cons.mpr ⟨⟨1, rfl, (in_good pl_o6_6 7 rfl), mf_67.1, mf_67.2.1, mf_67.2.2.1, mf_67.2.2.2.1, mf_67.2.2.2.2.1, mf_67.2.2.2.2.2.1, mf_67.2.2.2.2.2.2⟩,
  List.forall_mem_cons.mpr ⟨⟨1, rfl, (in_good pl_o6_6 8 rfl), mf_68.1, mf_68.2.1, mf_68.2.2.1, mf_68.2.2.2.1, mf_68.2.2.2.2.1, mf_68.2.2.2.2.2.1, mf_68.2.2.2.2.2.2⟩,
  List.forall_mem_cons.mpr ⟨⟨by decide, cn_5, ct_5, 9, cy_5, cf_5 3 (by decide), (in_good pl_o6_6 9 rfl)⟩,
  List.forall_mem_cons.mpr ⟨⟨by decide, cn_5, ct_5, 9, cy_5, cf_5 2 (by decide), (in_good pl_o6_6 10 rfl), rfl⟩,
  fun _ h => absurd h List.not_mem_nil⟩⟩⟩⟩⟩⟩⟩⟩⟩⟩⟩⟩
def lk_6_7 : List (Nat × Nat × Nat × Int) := [(235, 3, 69, 2), (238, 0, 5, 4), (240, 0, 5, 5), (242, 0, 5, 6), (244, 0, 5, 7), (246, 0, 5, 8), (248, 3, 123, 2), (252, 0, 4, 2), (253, 3, 18, 2), (256, 0, 4, 1), (256, 1, 4, 1), (257, 0, 3, 7)]
def PL_o6_7 : List (Nat × Jvm.Cond) := [(856, (Jvm.Cond.methodLink "LayeredDrawing" (235 : Nat) ({ cls := "LayeredDrawing$Text", name := "readEdge", desc := "(I)Z" } : Jvm.MethodName))),
  (262, (Jvm.Cond.fieldLink "LayeredDrawing" (238 : Nat) "LayeredDrawing$Text" "source" "I")),
  (264, (Jvm.Cond.fieldLink "LayeredDrawing" (240 : Nat) "LayeredDrawing$Text" "target" "I")),
  (266, (Jvm.Cond.fieldLink "LayeredDrawing" (242 : Nat) "LayeredDrawing$Text" "sourcePort" "I")),
  (268, (Jvm.Cond.fieldLink "LayeredDrawing" (244 : Nat) "LayeredDrawing$Text" "targetPort" "I")),
  (270, (Jvm.Cond.fieldLink "LayeredDrawing" (246 : Nat) "LayeredDrawing$Text" "least" "I")),
  (613, (Jvm.Cond.methodLink "LayeredDrawing" (248 : Nat) ({ cls := "LayeredDrawing", name := "slotNumbered", desc := "(I)LLayeredDrawing$Slot;" } : Jvm.MethodName))),
  (305, (Jvm.Cond.fieldLink "LayeredDrawing" (252 : Nat) "LayeredDrawing$Slot" "graph" "LLayeredDrawing$Graph;")),
  (617, (Jvm.Cond.methodLink "LayeredDrawing" (253 : Nat) ({ cls := "LayeredDrawing$Graph", name := "copyFrom", desc := "(LLayeredDrawing$Graph;)V" } : Jvm.MethodName))),
  (303, (Jvm.Cond.fieldLink "LayeredDrawing" (256 : Nat) "LayeredDrawing$Slot" "laidOut" "Z")),
  (182, (Jvm.Cond.fieldLink "LayeredDrawing" (257 : Nat) "LayeredDrawing$Order" "sequence" "[I"))]
theorem pl_o6_7 : PL_o6_7.all (fun q => decide (lw_tbl[q.1]? = some q.2) && goodWord q.2) = true := by decide +kernel
theorem lf_6_7 : ∀ q ∈ lk_6_7, gLink g_T g_F g_Y g_B g_R g_Cl g_E g_nests g_good cn_6 q := List.forall_mem_cons.mpr ⟨⟨1, rfl, (in_good pl_o6_7 0 rfl), mf_69.1, mf_69.2.1, mf_69.2.2.1, mf_69.2.2.2.1, mf_69.2.2.2.2.1, mf_69.2.2.2.2.2.1, mf_69.2.2.2.2.2.2⟩,
  List.forall_mem_cons.mpr ⟨⟨by decide, cn_5, ct_5, 9, cy_5, cf_5 4 (by decide), (in_good pl_o6_7 1 rfl)⟩,
  List.forall_mem_cons.mpr ⟨⟨by decide, cn_5, ct_5, 9, cy_5, cf_5 5 (by decide), (in_good pl_o6_7 2 rfl)⟩,
  List.forall_mem_cons.mpr ⟨⟨by decide, cn_5, ct_5, 9, cy_5, cf_5 6 (by decide), (in_good pl_o6_7 3 rfl)⟩,
  List.forall_mem_cons.mpr ⟨⟨by decide, cn_5, ct_5, 9, cy_5, cf_5 7 (by decide), (in_good pl_o6_7 4 rfl)⟩,
  List.forall_mem_cons.mpr ⟨⟨by decide, cn_5, ct_5, 9, cy_5, cf_5 8 (by decide), (in_good pl_o6_7 5 rfl)⟩,
  List.forall_mem_cons.mpr ⟨⟨1, rfl, (in_good pl_o6_7 6 rfl), mf_123.1, mf_123.2.1, mf_123.2.2.1, mf_123.2.2.2.1, mf_123.2.2.2.2.1, mf_123.2.2.2.2.2.1, mf_123.2.2.2.2.2.2⟩,
  List.forall_mem_cons.mpr ⟨⟨by decide, cn_4, ct_4, 5, cy_4, cf_4 2 (by decide), (in_good pl_o6_7 7 rfl)⟩,
  List.forall_mem_cons.mpr ⟨⟨1, rfl, (in_good pl_o6_7 8 rfl), mf_18.1, mf_18.2.1, mf_18.2.2.1, mf_18.2.2.2.1, mf_18.2.2.2.2.1, mf_18.2.2.2.2.2.1, mf_18.2.2.2.2.2.2⟩,
  List.forall_mem_cons.mpr ⟨⟨by decide, cn_4, ct_4, 5, cy_4, cf_4 1 (by decide), (in_good pl_o6_7 9 rfl)⟩,
  List.forall_mem_cons.mpr ⟨⟨by decide, cn_4, ct_4, 5, cy_4, cf_4 1 (by decide), (in_good pl_o6_7 9 rfl), rfl⟩,
  List.forall_mem_cons.mpr ⟨⟨by decide, cn_3, ct_3, 16, cy_3, cf_3 7 (by decide), (in_good pl_o6_7 10 rfl)⟩,
  fun _ h => absurd h List.not_mem_nil⟩⟩⟩⟩⟩⟩⟩⟩⟩⟩⟩⟩
def lk_6_8 : List (Nat × Nat × Nat × Int) := [(260, 0, 4, 3), (262, 6, 1001, 5), (268, 0, 4, 4), (269, 0, 4, 0), (269, 1, 4, 0), (272, 3, 47, 2), (276, 8, 0, 53), (278, 8, 0, 31), (280, 3, 115, 2), (284, 3, 20, 1), (287, 3, 46, 1)]
def PL_o6_8 : List (Nat × Jvm.Cond) := [(307, (Jvm.Cond.fieldLink "LayeredDrawing" (260 : Nat) "LayeredDrawing$Slot" "order" "[I")),
  (622, (Jvm.Cond.methodLink "LayeredDrawing" (262 : Nat) ({ cls := "java/lang/System", name := "arraycopy", desc := "(Ljava/lang/Object;ILjava/lang/Object;II)V" } : Jvm.MethodName))),
  (458, (Jvm.Cond.native ({ cls := "java/lang/System", name := "arraycopy", desc := "(Ljava/lang/Object;ILjava/lang/Object;II)V" } : Jvm.MethodName))),
  (457, (Jvm.Cond.static ({ cls := "java/lang/System", name := "arraycopy", desc := "(Ljava/lang/Object;ILjava/lang/Object;II)V" } : Jvm.MethodName))),
  (41, (Jvm.Cond.initialized "java/lang/System")),
  (309, (Jvm.Cond.fieldLink "LayeredDrawing" (268 : Nat) "LayeredDrawing$Slot" "leftOf" "[I")),
  (301, (Jvm.Cond.fieldLink "LayeredDrawing" (269 : Nat) "LayeredDrawing$Slot" "filled" "Z")),
  (627, (Jvm.Cond.methodLink "LayeredDrawing" (272 : Nat) ({ cls := "LayeredDrawing$Order", name := "takeOrder", desc := "([I)V" } : Jvm.MethodName))),
  (632, (Jvm.Cond.constantLong "LayeredDrawing" (276 : Nat) (53 : Int64))),
  (633, (Jvm.Cond.constantLong "LayeredDrawing" (278 : Nat) (31 : Int64))),
  (635, (Jvm.Cond.methodLink "LayeredDrawing" (280 : Nat) ({ cls := "LayeredDrawing", name := "withDrawing", desc := "(J)J" } : Jvm.MethodName))),
  (351, (Jvm.Cond.methodLink "LayeredDrawing" (284 : Nat) ({ cls := "LayeredDrawing$Layering", name := "compute", desc := "()V" } : Jvm.MethodName))),
  (532, (Jvm.Cond.methodLink "LayeredDrawing" (287 : Nat) ({ cls := "LayeredDrawing$Order", name := "isReordered", desc := "()Z" } : Jvm.MethodName)))]
theorem pl_o6_8 : PL_o6_8.all (fun q => decide (lw_tbl[q.1]? = some q.2) && goodWord q.2) = true := by decide +kernel
theorem lf_6_8 : ∀ q ∈ lk_6_8, gLink g_T g_F g_Y g_B g_R g_Cl g_E g_nests g_good cn_6 q := List.forall_mem_cons.mpr ⟨⟨by decide, cn_4, ct_4, 5, cy_4, cf_4 3 (by decide), (in_good pl_o6_8 0 rfl)⟩,
  List.forall_mem_cons.mpr ⟨⟨rfl, (in_good pl_o6_8 1 rfl), (in_good pl_o6_8 2 rfl), (in_good pl_o6_8 3 rfl), (in_good pl_o6_8 4 rfl)⟩,
  List.forall_mem_cons.mpr ⟨⟨by decide, cn_4, ct_4, 5, cy_4, cf_4 4 (by decide), (in_good pl_o6_8 5 rfl)⟩,
  List.forall_mem_cons.mpr ⟨⟨by decide, cn_4, ct_4, 5, cy_4, cf_4 0 (by decide), (in_good pl_o6_8 6 rfl)⟩,
  List.forall_mem_cons.mpr ⟨⟨by decide, cn_4, ct_4, 5, cy_4, cf_4 0 (by decide), (in_good pl_o6_8 6 rfl), rfl⟩,
  List.forall_mem_cons.mpr ⟨⟨1, rfl, (in_good pl_o6_8 7 rfl), mf_47.1, mf_47.2.1, mf_47.2.2.1, mf_47.2.2.2.1, mf_47.2.2.2.2.1, mf_47.2.2.2.2.2.1, mf_47.2.2.2.2.2.2⟩,
  List.forall_mem_cons.mpr ⟨(in_good pl_o6_8 8 rfl),
  List.forall_mem_cons.mpr ⟨(in_good pl_o6_8 9 rfl),
  List.forall_mem_cons.mpr ⟨⟨1, rfl, (in_good pl_o6_8 10 rfl), mf_115.1, mf_115.2.1, mf_115.2.2.1, mf_115.2.2.2.1, mf_115.2.2.2.2.1, mf_115.2.2.2.2.2.1, mf_115.2.2.2.2.2.2⟩,
  List.forall_mem_cons.mpr ⟨⟨0, rfl, (in_good pl_o6_8 11 rfl), mf_20.1, mf_20.2.1, mf_20.2.2.1, mf_20.2.2.2.1, mf_20.2.2.2.2.1, mf_20.2.2.2.2.2.1, mf_20.2.2.2.2.2.2⟩,
  List.forall_mem_cons.mpr ⟨⟨0, rfl, (in_good pl_o6_8 12 rfl), mf_46.1, mf_46.2.1, mf_46.2.2.1, mf_46.2.2.2.1, mf_46.2.2.2.2.1, mf_46.2.2.2.2.2.1, mf_46.2.2.2.2.2.2⟩,
  fun _ h => absurd h List.not_mem_nil⟩⟩⟩⟩⟩⟩⟩⟩⟩⟩⟩
def lk_6 : List (Nat × Nat × Nat × Int) := lk_6_0 ++ (lk_6_1 ++ (lk_6_2 ++ (lk_6_3 ++ (lk_6_4 ++ (lk_6_5 ++ (lk_6_6 ++ (lk_6_7 ++ (lk_6_8))))))))
theorem lf_6 : ∀ q ∈ lk_6, gLink g_T g_F g_Y g_B g_R g_Cl g_E g_nests g_good cn_6 q := List.forall_mem_append.mpr ⟨lf_6_0, List.forall_mem_append.mpr ⟨lf_6_1, List.forall_mem_append.mpr ⟨lf_6_2, List.forall_mem_append.mpr ⟨lf_6_3, List.forall_mem_append.mpr ⟨lf_6_4, List.forall_mem_append.mpr ⟨lf_6_5, List.forall_mem_append.mpr ⟨lf_6_6, List.forall_mem_append.mpr ⟨lf_6_7, lf_6_8⟩⟩⟩⟩⟩⟩⟩⟩
def lk_10_0 : List (Nat × Nat × Nat × Int) := [(7, 7, 0, 15485869), (8, 7, 0, 2147483647), (9, 2, 124, 2), (15, 3, 76, 3), (16, 9, 6, 7), (21, 3, 77, 6), (25, 3, 83, 2), (29, 3, 82, 3), (32, 3, 85, 2), (35, 3, 81, 1), (39, 3, 86, 2), (42, 3, 88, 1)]
def PL_o10_0 : List (Nat × Jvm.Cond) := [(653, (Jvm.Cond.constant "LayeredDrawingLaw" (7 : Nat) (15485869 : Int32))),
  (654, (Jvm.Cond.constant "LayeredDrawingLaw" (8 : Nat) (2147483647 : Int32))),
  (650, (Jvm.Cond.methodLink "LayeredDrawingLaw" (9 : Nat) ({ cls := "LayeredDrawingLaw", name := "cell", desc := "([II)I" } : Jvm.MethodName))),
  (658, (Jvm.Cond.methodLink "LayeredDrawingLaw" (15 : Nat) ({ cls := "LayeredDrawing", name := "addNode", desc := "(II)I" } : Jvm.MethodName))),
  (44, (Jvm.Cond.classLink "LayeredDrawingLaw" (16 : Nat) "LayeredDrawing")),
  (45, (Jvm.Cond.instantiable "LayeredDrawing" (7 : Nat))),
  (34, (Jvm.Cond.initialized "LayeredDrawing")),
  (666, (Jvm.Cond.methodLink "LayeredDrawingLaw" (21 : Nat) ({ cls := "LayeredDrawing", name := "addEdge", desc := "(IIIII)I" } : Jvm.MethodName))),
  (692, (Jvm.Cond.methodLink "LayeredDrawingLaw" (25 : Nat) ({ cls := "LayeredDrawing", name := "reversed", desc := "(I)I" } : Jvm.MethodName))),
  (688, (Jvm.Cond.methodLink "LayeredDrawingLaw" (29 : Nat) ({ cls := "LayeredDrawing", name := "edge", desc := "(II)I" } : Jvm.MethodName))),
  (696, (Jvm.Cond.methodLink "LayeredDrawingLaw" (32 : Nat) ({ cls := "LayeredDrawing", name := "layerOf", desc := "(I)I" } : Jvm.MethodName))),
  (408, (Jvm.Cond.methodLink "LayeredDrawingLaw" (35 : Nat) ({ cls := "LayeredDrawing", name := "edges", desc := "()I" } : Jvm.MethodName))),
  (680, (Jvm.Cond.methodLink "LayeredDrawingLaw" (39 : Nat) ({ cls := "LayeredDrawing", name := "lengthOf", desc := "(I)I" } : Jvm.MethodName))),
  (412, (Jvm.Cond.methodLink "LayeredDrawingLaw" (42 : Nat) ({ cls := "LayeredDrawing", name := "layers", desc := "()I" } : Jvm.MethodName)))]
theorem pl_o10_0 : PL_o10_0.all (fun q => decide (lw_tbl[q.1]? = some q.2) && goodWord q.2) = true := by decide +kernel
theorem lf_10_0 : ∀ q ∈ lk_10_0, gLink g_T g_F g_Y g_B g_R g_Cl g_E g_nests g_good "LayeredDrawingLaw" q := List.forall_mem_cons.mpr ⟨(in_good pl_o10_0 0 rfl),
  List.forall_mem_cons.mpr ⟨(in_good pl_o10_0 1 rfl),
  List.forall_mem_cons.mpr ⟨⟨by decide, (in_good pl_o10_0 2 rfl), mf_124.1, mf_124.2.1, mf_124.2.2.1, mf_124.2.2.2.1, mf_124.2.2.2.2⟩,
  List.forall_mem_cons.mpr ⟨⟨2, rfl, (in_good pl_o10_0 3 rfl), mf_76.1, mf_76.2.1, mf_76.2.2.1, mf_76.2.2.2.1, mf_76.2.2.2.2.1, mf_76.2.2.2.2.2.1, mf_76.2.2.2.2.2.2⟩,
  List.forall_mem_cons.mpr ⟨⟨cn_6, ct_6, 7, cy_6, rfl, by decide, rfl, ch_6, ck_6, cob_6, (in_good pl_o10_0 4 rfl), (in_good pl_o10_0 5 rfl), (in_good pl_o10_0 6 rfl)⟩,
  List.forall_mem_cons.mpr ⟨⟨5, rfl, (in_good pl_o10_0 7 rfl), mf_77.1, mf_77.2.1, mf_77.2.2.1, mf_77.2.2.2.1, mf_77.2.2.2.2.1, mf_77.2.2.2.2.2.1, mf_77.2.2.2.2.2.2⟩,
  List.forall_mem_cons.mpr ⟨⟨1, rfl, (in_good pl_o10_0 8 rfl), mf_83.1, mf_83.2.1, mf_83.2.2.1, mf_83.2.2.2.1, mf_83.2.2.2.2.1, mf_83.2.2.2.2.2.1, mf_83.2.2.2.2.2.2⟩,
  List.forall_mem_cons.mpr ⟨⟨2, rfl, (in_good pl_o10_0 9 rfl), mf_82.1, mf_82.2.1, mf_82.2.2.1, mf_82.2.2.2.1, mf_82.2.2.2.2.1, mf_82.2.2.2.2.2.1, mf_82.2.2.2.2.2.2⟩,
  List.forall_mem_cons.mpr ⟨⟨1, rfl, (in_good pl_o10_0 10 rfl), mf_85.1, mf_85.2.1, mf_85.2.2.1, mf_85.2.2.2.1, mf_85.2.2.2.2.1, mf_85.2.2.2.2.2.1, mf_85.2.2.2.2.2.2⟩,
  List.forall_mem_cons.mpr ⟨⟨0, rfl, (in_good pl_o10_0 11 rfl), mf_81.1, mf_81.2.1, mf_81.2.2.1, mf_81.2.2.2.1, mf_81.2.2.2.2.1, mf_81.2.2.2.2.2.1, mf_81.2.2.2.2.2.2⟩,
  List.forall_mem_cons.mpr ⟨⟨1, rfl, (in_good pl_o10_0 12 rfl), mf_86.1, mf_86.2.1, mf_86.2.2.1, mf_86.2.2.2.1, mf_86.2.2.2.2.1, mf_86.2.2.2.2.2.1, mf_86.2.2.2.2.2.2⟩,
  List.forall_mem_cons.mpr ⟨⟨0, rfl, (in_good pl_o10_0 13 rfl), mf_88.1, mf_88.2.1, mf_88.2.2.1, mf_88.2.2.2.1, mf_88.2.2.2.2.1, mf_88.2.2.2.2.2.1, mf_88.2.2.2.2.2.2⟩,
  fun _ h => absurd h List.not_mem_nil⟩⟩⟩⟩⟩⟩⟩⟩⟩⟩⟩⟩
def lk_10_1 : List (Nat × Nat × Nat × Int) := [(45, 3, 93, 2), (48, 3, 90, 2), (51, 3, 91, 3), (54, 3, 102, 2), (57, 3, 92, 2), (60, 3, 87, 1), (63, 3, 94, 1), (66, 3, 103, 1), (69, 2, 129, 1), (73, 2, 130, 1), (77, 3, 95, 3), (80, 7, 0, (-100000))]
def PL_o10_1 : List (Nat × Jvm.Cond) := [(700, (Jvm.Cond.methodLink "LayeredDrawingLaw" (45 : Nat) ({ cls := "LayeredDrawing", name := "crossingsBelow", desc := "(I)I" } : Jvm.MethodName))),
  (709, (Jvm.Cond.methodLink "LayeredDrawingLaw" (48 : Nat) ({ cls := "LayeredDrawing", name := "vertices", desc := "(I)I" } : Jvm.MethodName))),
  (714, (Jvm.Cond.methodLink "LayeredDrawingLaw" (51 : Nat) ({ cls := "LayeredDrawing", name := "vertex", desc := "(II)I" } : Jvm.MethodName))),
  (722, (Jvm.Cond.methodLink "LayeredDrawingLaw" (54 : Nat) ({ cls := "LayeredDrawing", name := "left", desc := "(I)I" } : Jvm.MethodName))),
  (730, (Jvm.Cond.methodLink "LayeredDrawingLaw" (57 : Nat) ({ cls := "LayeredDrawing", name := "placeOf", desc := "(I)I" } : Jvm.MethodName))),
  (734, (Jvm.Cond.methodLink "LayeredDrawingLaw" (60 : Nat) ({ cls := "LayeredDrawing", name := "totalLength", desc := "()I" } : Jvm.MethodName))),
  (471, (Jvm.Cond.methodLink "LayeredDrawingLaw" (63 : Nat) ({ cls := "LayeredDrawing", name := "crossings", desc := "()I" } : Jvm.MethodName))),
  (605, (Jvm.Cond.methodLink "LayeredDrawingLaw" (66 : Nat) ({ cls := "LayeredDrawing", name := "width", desc := "()I" } : Jvm.MethodName))),
  (738, (Jvm.Cond.methodLink "LayeredDrawingLaw" (69 : Nat) ({ cls := "LayeredDrawingLaw", name := "pairs", desc := "(LLayeredDrawing;)I" } : Jvm.MethodName))),
  (750, (Jvm.Cond.methodLink "LayeredDrawingLaw" (73 : Nat) ({ cls := "LayeredDrawingLaw", name := "spreads", desc := "(LLayeredDrawing;)Z" } : Jvm.MethodName))),
  (741, (Jvm.Cond.methodLink "LayeredDrawingLaw" (77 : Nat) ({ cls := "LayeredDrawing", name := "crossingsOf", desc := "(II)I" } : Jvm.MethodName))),
  (749, (Jvm.Cond.constant "LayeredDrawingLaw" (80 : Nat) (-100000 : Int32)))]
theorem pl_o10_1 : PL_o10_1.all (fun q => decide (lw_tbl[q.1]? = some q.2) && goodWord q.2) = true := by decide +kernel
theorem lf_10_1 : ∀ q ∈ lk_10_1, gLink g_T g_F g_Y g_B g_R g_Cl g_E g_nests g_good "LayeredDrawingLaw" q := List.forall_mem_cons.mpr ⟨⟨1, rfl, (in_good pl_o10_1 0 rfl), mf_93.1, mf_93.2.1, mf_93.2.2.1, mf_93.2.2.2.1, mf_93.2.2.2.2.1, mf_93.2.2.2.2.2.1, mf_93.2.2.2.2.2.2⟩,
  List.forall_mem_cons.mpr ⟨⟨1, rfl, (in_good pl_o10_1 1 rfl), mf_90.1, mf_90.2.1, mf_90.2.2.1, mf_90.2.2.2.1, mf_90.2.2.2.2.1, mf_90.2.2.2.2.2.1, mf_90.2.2.2.2.2.2⟩,
  List.forall_mem_cons.mpr ⟨⟨2, rfl, (in_good pl_o10_1 2 rfl), mf_91.1, mf_91.2.1, mf_91.2.2.1, mf_91.2.2.2.1, mf_91.2.2.2.2.1, mf_91.2.2.2.2.2.1, mf_91.2.2.2.2.2.2⟩,
  List.forall_mem_cons.mpr ⟨⟨1, rfl, (in_good pl_o10_1 3 rfl), mf_102.1, mf_102.2.1, mf_102.2.2.1, mf_102.2.2.2.1, mf_102.2.2.2.2.1, mf_102.2.2.2.2.2.1, mf_102.2.2.2.2.2.2⟩,
  List.forall_mem_cons.mpr ⟨⟨1, rfl, (in_good pl_o10_1 4 rfl), mf_92.1, mf_92.2.1, mf_92.2.2.1, mf_92.2.2.2.1, mf_92.2.2.2.2.1, mf_92.2.2.2.2.2.1, mf_92.2.2.2.2.2.2⟩,
  List.forall_mem_cons.mpr ⟨⟨0, rfl, (in_good pl_o10_1 5 rfl), mf_87.1, mf_87.2.1, mf_87.2.2.1, mf_87.2.2.2.1, mf_87.2.2.2.2.1, mf_87.2.2.2.2.2.1, mf_87.2.2.2.2.2.2⟩,
  List.forall_mem_cons.mpr ⟨⟨0, rfl, (in_good pl_o10_1 6 rfl), mf_94.1, mf_94.2.1, mf_94.2.2.1, mf_94.2.2.2.1, mf_94.2.2.2.2.1, mf_94.2.2.2.2.2.1, mf_94.2.2.2.2.2.2⟩,
  List.forall_mem_cons.mpr ⟨⟨0, rfl, (in_good pl_o10_1 7 rfl), mf_103.1, mf_103.2.1, mf_103.2.2.1, mf_103.2.2.2.1, mf_103.2.2.2.2.1, mf_103.2.2.2.2.2.1, mf_103.2.2.2.2.2.2⟩,
  List.forall_mem_cons.mpr ⟨⟨by decide, (in_good pl_o10_1 8 rfl), mf_129.1, mf_129.2.1, mf_129.2.2.1, mf_129.2.2.2.1, mf_129.2.2.2.2⟩,
  List.forall_mem_cons.mpr ⟨⟨by decide, (in_good pl_o10_1 9 rfl), mf_130.1, mf_130.2.1, mf_130.2.2.1, mf_130.2.2.2.1, mf_130.2.2.2.2⟩,
  List.forall_mem_cons.mpr ⟨⟨2, rfl, (in_good pl_o10_1 10 rfl), mf_95.1, mf_95.2.1, mf_95.2.2.1, mf_95.2.2.2.1, mf_95.2.2.2.2.1, mf_95.2.2.2.2.2.1, mf_95.2.2.2.2.2.2⟩,
  List.forall_mem_cons.mpr ⟨(in_good pl_o10_1 11 rfl),
  fun _ h => absurd h List.not_mem_nil⟩⟩⟩⟩⟩⟩⟩⟩⟩⟩⟩⟩
def lk_10_2 : List (Nat × Nat × Nat × Int) := [(81, 2, 127, 4), (85, 2, 126, 1), (88, 3, 105, 2), (91, 3, 104, 1), (94, 7, 0, 100000), (95, 3, 106, 3), (98, 3, 107, 2), (101, 3, 108, 2), (104, 3, 109, 1), (107, 2, 133, 2), (111, 3, 110, 1), (114, 3, 112, 2)]
def PL_o10_2 : List (Nat × Jvm.Cond) := [(753, (Jvm.Cond.methodLink "LayeredDrawingLaw" (81 : Nat) ({ cls := "LayeredDrawingLaw", name := "end", desc := "(LLayeredDrawing;III)I" } : Jvm.MethodName))),
  (756, (Jvm.Cond.methodLink "LayeredDrawingLaw" (85 : Nat) ({ cls := "LayeredDrawingLaw", name := "size", desc := "(I)I" } : Jvm.MethodName))),
  (759, (Jvm.Cond.methodLink "LayeredDrawingLaw" (88 : Nat) ({ cls := "LayeredDrawing", name := "straight", desc := "(I)I" } : Jvm.MethodName))),
  (767, (Jvm.Cond.methodLink "LayeredDrawingLaw" (91 : Nat) ({ cls := "LayeredDrawing", name := "spread", desc := "()I" } : Jvm.MethodName))),
  (774, (Jvm.Cond.constant "LayeredDrawingLaw" (94 : Nat) (100000 : Int32))),
  (775, (Jvm.Cond.methodLink "LayeredDrawingLaw" (95 : Nat) ({ cls := "LayeredDrawing", name := "border", desc := "(II)I" } : Jvm.MethodName))),
  (794, (Jvm.Cond.methodLink "LayeredDrawingLaw" (98 : Nat) ({ cls := "LayeredDrawing", name := "intruders", desc := "(I)I" } : Jvm.MethodName))),
  (816, (Jvm.Cond.methodLink "LayeredDrawingLaw" (101 : Nat) ({ cls := "LayeredDrawing", name := "append", desc := "(I)I" } : Jvm.MethodName))),
  (809, (Jvm.Cond.methodLink "LayeredDrawingLaw" (104 : Nat) ({ cls := "LayeredDrawing", name := "clearText", desc := "()I" } : Jvm.MethodName))),
  (813, (Jvm.Cond.methodLink "LayeredDrawingLaw" (107 : Nat) ({ cls := "LayeredDrawingLaw", name := "number", desc := "(LLayeredDrawing;I)V" } : Jvm.MethodName))),
  (824, (Jvm.Cond.methodLink "LayeredDrawingLaw" (111 : Nat) ({ cls := "LayeredDrawing", name := "faultPosition", desc := "()I" } : Jvm.MethodName))),
  (609, (Jvm.Cond.methodLink "LayeredDrawingLaw" (114 : Nat) ({ cls := "LayeredDrawing", name := "keep", desc := "(I)I" } : Jvm.MethodName)))]
theorem pl_o10_2 : PL_o10_2.all (fun q => decide (lw_tbl[q.1]? = some q.2) && goodWord q.2) = true := by decide +kernel
theorem lf_10_2 : ∀ q ∈ lk_10_2, gLink g_T g_F g_Y g_B g_R g_Cl g_E g_nests g_good "LayeredDrawingLaw" q := List.forall_mem_cons.mpr ⟨⟨by decide, (in_good pl_o10_2 0 rfl), mf_127.1, mf_127.2.1, mf_127.2.2.1, mf_127.2.2.2.1, mf_127.2.2.2.2⟩,
  List.forall_mem_cons.mpr ⟨⟨by decide, (in_good pl_o10_2 1 rfl), mf_126.1, mf_126.2.1, mf_126.2.2.1, mf_126.2.2.2.1, mf_126.2.2.2.2⟩,
  List.forall_mem_cons.mpr ⟨⟨1, rfl, (in_good pl_o10_2 2 rfl), mf_105.1, mf_105.2.1, mf_105.2.2.1, mf_105.2.2.2.1, mf_105.2.2.2.2.1, mf_105.2.2.2.2.2.1, mf_105.2.2.2.2.2.2⟩,
  List.forall_mem_cons.mpr ⟨⟨0, rfl, (in_good pl_o10_2 3 rfl), mf_104.1, mf_104.2.1, mf_104.2.2.1, mf_104.2.2.2.1, mf_104.2.2.2.2.1, mf_104.2.2.2.2.2.1, mf_104.2.2.2.2.2.2⟩,
  List.forall_mem_cons.mpr ⟨(in_good pl_o10_2 4 rfl),
  List.forall_mem_cons.mpr ⟨⟨2, rfl, (in_good pl_o10_2 5 rfl), mf_106.1, mf_106.2.1, mf_106.2.2.1, mf_106.2.2.2.1, mf_106.2.2.2.2.1, mf_106.2.2.2.2.2.1, mf_106.2.2.2.2.2.2⟩,
  List.forall_mem_cons.mpr ⟨⟨1, rfl, (in_good pl_o10_2 6 rfl), mf_107.1, mf_107.2.1, mf_107.2.2.1, mf_107.2.2.2.1, mf_107.2.2.2.2.1, mf_107.2.2.2.2.2.1, mf_107.2.2.2.2.2.2⟩,
  List.forall_mem_cons.mpr ⟨⟨1, rfl, (in_good pl_o10_2 7 rfl), mf_108.1, mf_108.2.1, mf_108.2.2.1, mf_108.2.2.2.1, mf_108.2.2.2.2.1, mf_108.2.2.2.2.2.1, mf_108.2.2.2.2.2.2⟩,
  List.forall_mem_cons.mpr ⟨⟨0, rfl, (in_good pl_o10_2 8 rfl), mf_109.1, mf_109.2.1, mf_109.2.2.1, mf_109.2.2.2.1, mf_109.2.2.2.2.1, mf_109.2.2.2.2.2.1, mf_109.2.2.2.2.2.2⟩,
  List.forall_mem_cons.mpr ⟨⟨by decide, (in_good pl_o10_2 9 rfl), mf_133.1, mf_133.2.1, mf_133.2.2.1, mf_133.2.2.2.1, mf_133.2.2.2.2⟩,
  List.forall_mem_cons.mpr ⟨⟨0, rfl, (in_good pl_o10_2 10 rfl), mf_110.1, mf_110.2.1, mf_110.2.2.1, mf_110.2.2.2.1, mf_110.2.2.2.2.1, mf_110.2.2.2.2.2.1, mf_110.2.2.2.2.2.2⟩,
  List.forall_mem_cons.mpr ⟨⟨1, rfl, (in_good pl_o10_2 11 rfl), mf_112.1, mf_112.2.1, mf_112.2.2.1, mf_112.2.2.2.1, mf_112.2.2.2.2.1, mf_112.2.2.2.2.2.1, mf_112.2.2.2.2.2.2⟩,
  fun _ h => absurd h List.not_mem_nil⟩⟩⟩⟩⟩⟩⟩⟩⟩⟩⟩⟩
def lk_10_3 : List (Nat × Nat × Nat × Int) := [(117, 3, 111, 1), (120, 3, 113, 2), (123, 3, 114, 1), (127, 3, 79, 3), (130, 3, 97, 2), (133, 3, 99, 2), (136, 3, 100, 3), (139, 4, 74, 1), (140, 3, 89, 1), (143, 3, 78, 1), (146, 2, 125, 6), (150, 2, 134, 3)]
def PL_o10_3 : List (Nat × Jvm.Cond) := [(852, (Jvm.Cond.methodLink "LayeredDrawingLaw" (117 : Nat) ({ cls := "LayeredDrawing", name := "read", desc := "()I" } : Jvm.MethodName))),
  (623, (Jvm.Cond.methodLink "LayeredDrawingLaw" (120 : Nat) ({ cls := "LayeredDrawing", name := "restore", desc := "(I)I" } : Jvm.MethodName))),
  (628, (Jvm.Cond.methodLink "LayeredDrawingLaw" (123 : Nat) ({ cls := "LayeredDrawing", name := "checksum", desc := "()J" } : Jvm.MethodName))),
  (400, (Jvm.Cond.methodLink "LayeredDrawingLaw" (127 : Nat) ({ cls := "LayeredDrawing", name := "setGroup", desc := "(II)I" } : Jvm.MethodName))),
  (860, (Jvm.Cond.methodLink "LayeredDrawingLaw" (130 : Nat) ({ cls := "LayeredDrawing", name := "sift", desc := "(I)I" } : Jvm.MethodName))),
  (561, (Jvm.Cond.methodLink "LayeredDrawingLaw" (133 : Nat) ({ cls := "LayeredDrawing", name := "reduce", desc := "(I)I" } : Jvm.MethodName))),
  (865, (Jvm.Cond.methodLink "LayeredDrawingLaw" (136 : Nat) ({ cls := "LayeredDrawing", name := "exchange", desc := "(II)I" } : Jvm.MethodName))),
  (46, (Jvm.Cond.methodLink "LayeredDrawingLaw" (139 : Nat) ({ cls := "LayeredDrawing", name := "<init>", desc := "()V" } : Jvm.MethodName))),
  (416, (Jvm.Cond.methodLink "LayeredDrawingLaw" (140 : Nat) ({ cls := "LayeredDrawing", name := "layOut", desc := "()I" } : Jvm.MethodName))),
  (343, (Jvm.Cond.methodLink "LayeredDrawingLaw" (143 : Nat) ({ cls := "LayeredDrawing", name := "removeEdge", desc := "()I" } : Jvm.MethodName))),
  (655, (Jvm.Cond.methodLink "LayeredDrawingLaw" (146 : Nat) ({ cls := "LayeredDrawingLaw", name := "graph", desc := "(LLayeredDrawing;[IIIII)I" } : Jvm.MethodName))),
  (806, (Jvm.Cond.methodLink "LayeredDrawingLaw" (150 : Nat) ({ cls := "LayeredDrawingLaw", name := "reads", desc := "(LLayeredDrawing;II)Z" } : Jvm.MethodName)))]
theorem pl_o10_3 : PL_o10_3.all (fun q => decide (lw_tbl[q.1]? = some q.2) && goodWord q.2) = true := by decide +kernel
theorem lf_10_3 : ∀ q ∈ lk_10_3, gLink g_T g_F g_Y g_B g_R g_Cl g_E g_nests g_good "LayeredDrawingLaw" q := List.forall_mem_cons.mpr ⟨⟨0, rfl, (in_good pl_o10_3 0 rfl), mf_111.1, mf_111.2.1, mf_111.2.2.1, mf_111.2.2.2.1, mf_111.2.2.2.2.1, mf_111.2.2.2.2.2.1, mf_111.2.2.2.2.2.2⟩,
  List.forall_mem_cons.mpr ⟨⟨1, rfl, (in_good pl_o10_3 1 rfl), mf_113.1, mf_113.2.1, mf_113.2.2.1, mf_113.2.2.2.1, mf_113.2.2.2.2.1, mf_113.2.2.2.2.2.1, mf_113.2.2.2.2.2.2⟩,
  List.forall_mem_cons.mpr ⟨⟨0, rfl, (in_good pl_o10_3 2 rfl), mf_114.1, mf_114.2.1, mf_114.2.2.1, mf_114.2.2.2.1, mf_114.2.2.2.2.1, mf_114.2.2.2.2.2.1, mf_114.2.2.2.2.2.2⟩,
  List.forall_mem_cons.mpr ⟨⟨2, rfl, (in_good pl_o10_3 3 rfl), mf_79.1, mf_79.2.1, mf_79.2.2.1, mf_79.2.2.2.1, mf_79.2.2.2.2.1, mf_79.2.2.2.2.2.1, mf_79.2.2.2.2.2.2⟩,
  List.forall_mem_cons.mpr ⟨⟨1, rfl, (in_good pl_o10_3 4 rfl), mf_97.1, mf_97.2.1, mf_97.2.2.1, mf_97.2.2.2.1, mf_97.2.2.2.2.1, mf_97.2.2.2.2.2.1, mf_97.2.2.2.2.2.2⟩,
  List.forall_mem_cons.mpr ⟨⟨1, rfl, (in_good pl_o10_3 5 rfl), mf_99.1, mf_99.2.1, mf_99.2.2.1, mf_99.2.2.2.1, mf_99.2.2.2.2.1, mf_99.2.2.2.2.2.1, mf_99.2.2.2.2.2.2⟩,
  List.forall_mem_cons.mpr ⟨⟨2, rfl, (in_good pl_o10_3 6 rfl), mf_100.1, mf_100.2.1, mf_100.2.2.1, mf_100.2.2.2.1, mf_100.2.2.2.2.1, mf_100.2.2.2.2.2.1, mf_100.2.2.2.2.2.2⟩,
  List.forall_mem_cons.mpr ⟨⟨by decide, 0, rfl, Or.inl (in_good pl_o10_3 7 rfl), mf_74.1, mf_74.2.1, mf_74.2.2.1, mf_74.2.2.2.1, mf_74.2.2.2.2.1, mf_74.2.2.2.2.2.1, mf_74.2.2.2.2.2.2⟩,
  List.forall_mem_cons.mpr ⟨⟨0, rfl, (in_good pl_o10_3 8 rfl), mf_89.1, mf_89.2.1, mf_89.2.2.1, mf_89.2.2.2.1, mf_89.2.2.2.2.1, mf_89.2.2.2.2.2.1, mf_89.2.2.2.2.2.2⟩,
  List.forall_mem_cons.mpr ⟨⟨0, rfl, (in_good pl_o10_3 9 rfl), mf_78.1, mf_78.2.1, mf_78.2.2.1, mf_78.2.2.2.1, mf_78.2.2.2.2.1, mf_78.2.2.2.2.2.1, mf_78.2.2.2.2.2.2⟩,
  List.forall_mem_cons.mpr ⟨⟨by decide, (in_good pl_o10_3 10 rfl), mf_125.1, mf_125.2.1, mf_125.2.2.1, mf_125.2.2.2.1, mf_125.2.2.2.2⟩,
  List.forall_mem_cons.mpr ⟨⟨by decide, (in_good pl_o10_3 11 rfl), mf_134.1, mf_134.2.1, mf_134.2.2.1, mf_134.2.2.2.1, mf_134.2.2.2.2⟩,
  fun _ h => absurd h List.not_mem_nil⟩⟩⟩⟩⟩⟩⟩⟩⟩⟩⟩⟩
def lk_10_4 : List (Nat × Nat × Nat × Int) := [(154, 2, 128, 3), (158, 2, 131, 4), (162, 2, 135, 2), (166, 3, 98, 1), (169, 3, 101, 1), (172, 2, 132, 2), (176, 3, 96, 2)]
def PL_o10_4 : List (Nat × Jvm.Cond) := [(677, (Jvm.Cond.methodLink "LayeredDrawingLaw" (154 : Nat) ({ cls := "LayeredDrawingLaw", name := "sound", desc := "(LLayeredDrawing;[I[I)Z" } : Jvm.MethodName))),
  (771, (Jvm.Cond.methodLink "LayeredDrawingLaw" (158 : Nat) ({ cls := "LayeredDrawingLaw", name := "borders", desc := "(LLayeredDrawing;[I[II)Z" } : Jvm.MethodName))),
  (857, (Jvm.Cond.methodLink "LayeredDrawingLaw" (162 : Nat) ({ cls := "LayeredDrawingLaw", name := "refuses", desc := "(LLayeredDrawing;I)Z" } : Jvm.MethodName))),
  (536, (Jvm.Cond.methodLink "LayeredDrawingLaw" (166 : Nat) ({ cls := "LayeredDrawing", name := "siftAll", desc := "()I" } : Jvm.MethodName))),
  (576, (Jvm.Cond.methodLink "LayeredDrawingLaw" (169 : Nat) ({ cls := "LayeredDrawing", name := "align", desc := "()I" } : Jvm.MethodName))),
  (803, (Jvm.Cond.methodLink "LayeredDrawingLaw" (172 : Nat) ({ cls := "LayeredDrawingLaw", name := "aligned", desc := "(LLayeredDrawing;[I)Z" } : Jvm.MethodName))),
  (503, (Jvm.Cond.methodLink "LayeredDrawingLaw" (176 : Nat) ({ cls := "LayeredDrawing", name := "sweep", desc := "(Z)I" } : Jvm.MethodName)))]
theorem pl_o10_4 : PL_o10_4.all (fun q => decide (lw_tbl[q.1]? = some q.2) && goodWord q.2) = true := by decide +kernel
theorem lf_10_4 : ∀ q ∈ lk_10_4, gLink g_T g_F g_Y g_B g_R g_Cl g_E g_nests g_good "LayeredDrawingLaw" q := List.forall_mem_cons.mpr ⟨⟨by decide, (in_good pl_o10_4 0 rfl), mf_128.1, mf_128.2.1, mf_128.2.2.1, mf_128.2.2.2.1, mf_128.2.2.2.2⟩,
  List.forall_mem_cons.mpr ⟨⟨by decide, (in_good pl_o10_4 1 rfl), mf_131.1, mf_131.2.1, mf_131.2.2.1, mf_131.2.2.2.1, mf_131.2.2.2.2⟩,
  List.forall_mem_cons.mpr ⟨⟨by decide, (in_good pl_o10_4 2 rfl), mf_135.1, mf_135.2.1, mf_135.2.2.1, mf_135.2.2.2.1, mf_135.2.2.2.2⟩,
  List.forall_mem_cons.mpr ⟨⟨0, rfl, (in_good pl_o10_4 3 rfl), mf_98.1, mf_98.2.1, mf_98.2.2.1, mf_98.2.2.2.1, mf_98.2.2.2.2.1, mf_98.2.2.2.2.2.1, mf_98.2.2.2.2.2.2⟩,
  List.forall_mem_cons.mpr ⟨⟨0, rfl, (in_good pl_o10_4 4 rfl), mf_101.1, mf_101.2.1, mf_101.2.2.1, mf_101.2.2.2.1, mf_101.2.2.2.2.1, mf_101.2.2.2.2.2.1, mf_101.2.2.2.2.2.2⟩,
  List.forall_mem_cons.mpr ⟨⟨by decide, (in_good pl_o10_4 5 rfl), mf_132.1, mf_132.2.1, mf_132.2.2.1, mf_132.2.2.2.1, mf_132.2.2.2.2⟩,
  List.forall_mem_cons.mpr ⟨⟨1, rfl, (in_good pl_o10_4 6 rfl), mf_96.1, mf_96.2.1, mf_96.2.2.1, mf_96.2.2.2.1, mf_96.2.2.2.2.1, mf_96.2.2.2.2.2.1, mf_96.2.2.2.2.2.2⟩,
  fun _ h => absurd h List.not_mem_nil⟩⟩⟩⟩⟩⟩⟩
def lk_10 : List (Nat × Nat × Nat × Int) := lk_10_0 ++ (lk_10_1 ++ (lk_10_2 ++ (lk_10_3 ++ (lk_10_4))))
theorem lf_10 : ∀ q ∈ lk_10, gLink g_T g_F g_Y g_B g_R g_Cl g_E g_nests g_good "LayeredDrawingLaw" q := List.forall_mem_append.mpr ⟨lf_10_0, List.forall_mem_append.mpr ⟨lf_10_1, List.forall_mem_append.mpr ⟨lf_10_2, List.forall_mem_append.mpr ⟨lf_10_3, lf_10_4⟩⟩⟩⟩
def lk_9_0 : List (Nat × Nat × Nat × Int) := []
theorem lf_9_0 : ∀ q ∈ lk_9_0, gLink g_T g_F g_Y g_B g_R g_Cl g_E g_nests g_good "java/util/Arrays" q := fun _ h => absurd h List.not_mem_nil
def lk_9 : List (Nat × Nat × Nat × Int) := lk_9_0
theorem lf_9 : ∀ q ∈ lk_9, gLink g_T g_F g_Y g_B g_R g_Cl g_E g_nests g_good "java/util/Arrays" q := lf_9_0
end
section
theorem all_cut {l : List GE} {f : GE → Bool} {a n : Nat} (h1 : ((l.drop a).take n).all f = true) (h2 : (l.drop (a + n)).all f = true) : (l.drop a).all f = true := by
  rw [← List.take_append_drop n (l.drop a), List.all_append, h1, List.drop_drop, h2]; rfl
theorem rc_0 : K_0.all (gCk lk_0 true (g_B 0)) = true := by decide +kernel
theorem mo_0 : gMok g_T g_F g_Y g_B g_R g_Cl g_E g_nests g_good 0 := ⟨by decide +kernel, rfl, g_rows lk_0 lf_0 rc_0⟩
theorem rc_1 : K_1.all (gCk lk_0 false (g_B 1)) = true := by decide +kernel
theorem mo_1 : gMok g_T g_F g_Y g_B g_R g_Cl g_E g_nests g_good 1 := ⟨by decide +kernel, rfl, g_rows lk_0 lf_0 rc_1⟩
theorem rc_2 : K_2.all (gCk lk_0 false (g_B 2)) = true := by decide +kernel
theorem mo_2 : gMok g_T g_F g_Y g_B g_R g_Cl g_E g_nests g_good 2 := ⟨by decide +kernel, rfl, g_rows lk_0 lf_0 rc_2⟩
theorem rc_3 : K_3.all (gCk lk_0 false (g_B 3)) = true := by decide +kernel
theorem mo_3 : gMok g_T g_F g_Y g_B g_R g_Cl g_E g_nests g_good 3 := ⟨by decide +kernel, rfl, g_rows lk_0 lf_0 rc_3⟩
theorem rc_4 : K_4.all (gCk lk_0 false (g_B 4)) = true := by decide +kernel
theorem mo_4 : gMok g_T g_F g_Y g_B g_R g_Cl g_E g_nests g_good 4 := ⟨by decide +kernel, rfl, g_rows lk_0 lf_0 rc_4⟩
theorem rc_5 : K_5.all (gCk lk_0 false (g_B 5)) = true := by decide +kernel
theorem mo_5 : gMok g_T g_F g_Y g_B g_R g_Cl g_E g_nests g_good 5 := ⟨by decide +kernel, rfl, g_rows lk_0 lf_0 rc_5⟩
theorem rc_6 : K_6.all (gCk lk_0 false (g_B 6)) = true := by decide +kernel
theorem mo_6 : gMok g_T g_F g_Y g_B g_R g_Cl g_E g_nests g_good 6 := ⟨by decide +kernel, rfl, g_rows lk_0 lf_0 rc_6⟩
theorem rc_7 : K_7.all (gCk lk_0 false (g_B 7)) = true := by decide +kernel
theorem mo_7 : gMok g_T g_F g_Y g_B g_R g_Cl g_E g_nests g_good 7 := ⟨by decide +kernel, rfl, g_rows lk_0 lf_0 rc_7⟩
theorem rc_8 : K_8.all (gCk lk_0 false (g_B 8)) = true := by decide +kernel
theorem mo_8 : gMok g_T g_F g_Y g_B g_R g_Cl g_E g_nests g_good 8 := ⟨by decide +kernel, rfl, g_rows lk_0 lf_0 rc_8⟩
theorem rc_9 : K_9.all (gCk lk_0 false (g_B 9)) = true := by decide +kernel
theorem mo_9 : gMok g_T g_F g_Y g_B g_R g_Cl g_E g_nests g_good 9 := ⟨by decide +kernel, rfl, g_rows lk_0 lf_0 rc_9⟩
theorem rc_10 : K_10.all (gCk lk_0 false (g_B 10)) = true := by decide +kernel
theorem mo_10 : gMok g_T g_F g_Y g_B g_R g_Cl g_E g_nests g_good 10 := ⟨by decide +kernel, rfl, g_rows lk_0 lf_0 rc_10⟩
theorem rc_11 : K_11.all (gCk lk_0 false (g_B 11)) = true := by decide +kernel
theorem mo_11 : gMok g_T g_F g_Y g_B g_R g_Cl g_E g_nests g_good 11 := ⟨by decide +kernel, rfl, g_rows lk_0 lf_0 rc_11⟩
theorem rc_12 : K_12.all (gCk lk_0 false (g_B 12)) = true := by decide +kernel
theorem mo_12 : gMok g_T g_F g_Y g_B g_R g_Cl g_E g_nests g_good 12 := ⟨by decide +kernel, rfl, g_rows lk_0 lf_0 rc_12⟩
theorem rc_13 : K_13.all (gCk lk_1 true (g_B 13)) = true := by decide +kernel
theorem mo_13 : gMok g_T g_F g_Y g_B g_R g_Cl g_E g_nests g_good 13 := ⟨by decide +kernel, rfl, g_rows lk_1 lf_1 rc_13⟩
theorem rc_15 : K_15.all (gCk lk_1 false (g_B 15)) = true := by decide +kernel
theorem mo_15 : gMok g_T g_F g_Y g_B g_R g_Cl g_E g_nests g_good 15 := ⟨by decide +kernel, rfl, g_rows lk_1 lf_1 rc_15⟩
theorem rc_16 : K_16.all (gCk lk_1 false (g_B 16)) = true := by decide +kernel
theorem mo_16 : gMok g_T g_F g_Y g_B g_R g_Cl g_E g_nests g_good 16 := ⟨by decide +kernel, rfl, g_rows lk_1 lf_1 rc_16⟩
theorem rc_17 : K_17.all (gCk lk_1 false (g_B 17)) = true := by decide +kernel
theorem mo_17 : gMok g_T g_F g_Y g_B g_R g_Cl g_E g_nests g_good 17 := ⟨by decide +kernel, rfl, g_rows lk_1 lf_1 rc_17⟩
theorem rc_18 : K_18.all (gCk lk_1 false (g_B 18)) = true := by decide +kernel
theorem mo_18 : gMok g_T g_F g_Y g_B g_R g_Cl g_E g_nests g_good 18 := ⟨by decide +kernel, rfl, g_rows lk_1 lf_1 rc_18⟩
theorem rc_19 : K_19.all (gCk lk_2 true (g_B 19)) = true := by decide +kernel
theorem mo_19 : gMok g_T g_F g_Y g_B g_R g_Cl g_E g_nests g_good 19 := ⟨by decide +kernel, rfl, g_rows lk_2 lf_2 rc_19⟩
theorem rc_20 : K_20.all (gCk lk_2 false (g_B 20)) = true := by decide +kernel
theorem mo_20 : gMok g_T g_F g_Y g_B g_R g_Cl g_E g_nests g_good 20 := ⟨by decide +kernel, rfl, g_rows lk_2 lf_2 rc_20⟩
theorem rc_21 : K_21.all (gCk lk_2 false (g_B 21)) = true := by decide +kernel
theorem mo_21 : gMok g_T g_F g_Y g_B g_R g_Cl g_E g_nests g_good 21 := ⟨by decide +kernel, rfl, g_rows lk_2 lf_2 rc_21⟩
theorem rc_22 : K_22.all (gCk lk_2 false (g_B 22)) = true := by decide +kernel
theorem mo_22 : gMok g_T g_F g_Y g_B g_R g_Cl g_E g_nests g_good 22 := ⟨by decide +kernel, rfl, g_rows lk_2 lf_2 rc_22⟩
theorem rc_23 : K_23.all (gCk lk_2 false (g_B 23)) = true := by decide +kernel
theorem mo_23 : gMok g_T g_F g_Y g_B g_R g_Cl g_E g_nests g_good 23 := ⟨by decide +kernel, rfl, g_rows lk_2 lf_2 rc_23⟩
theorem rc_24 : K_24.all (gCk lk_2 false (g_B 24)) = true := by decide +kernel
theorem mo_24 : gMok g_T g_F g_Y g_B g_R g_Cl g_E g_nests g_good 24 := ⟨by decide +kernel, rfl, g_rows lk_2 lf_2 rc_24⟩
theorem rc_25 : K_25.all (gCk lk_2 false (g_B 25)) = true := by decide +kernel
theorem mo_25 : gMok g_T g_F g_Y g_B g_R g_Cl g_E g_nests g_good 25 := ⟨by decide +kernel, rfl, g_rows lk_2 lf_2 rc_25⟩
theorem rc_26 : K_26.all (gCk lk_2 false (g_B 26)) = true := by decide +kernel
theorem mo_26 : gMok g_T g_F g_Y g_B g_R g_Cl g_E g_nests g_good 26 := ⟨by decide +kernel, rfl, g_rows lk_2 lf_2 rc_26⟩
theorem rc_27 : K_27.all (gCk lk_2 false (g_B 27)) = true := by decide +kernel
theorem mo_27 : gMok g_T g_F g_Y g_B g_R g_Cl g_E g_nests g_good 27 := ⟨by decide +kernel, rfl, g_rows lk_2 lf_2 rc_27⟩
theorem rc_28 : K_28.all (gCk lk_2 false (g_B 28)) = true := by decide +kernel
theorem mo_28 : gMok g_T g_F g_Y g_B g_R g_Cl g_E g_nests g_good 28 := ⟨by decide +kernel, rfl, g_rows lk_2 lf_2 rc_28⟩
theorem rc_29 : K_29.all (gCk lk_2 false (g_B 29)) = true := by decide +kernel
theorem mo_29 : gMok g_T g_F g_Y g_B g_R g_Cl g_E g_nests g_good 29 := ⟨by decide +kernel, rfl, g_rows lk_2 lf_2 rc_29⟩
theorem rc_30 : K_30.all (gCk lk_2 false (g_B 30)) = true := by decide +kernel
theorem mo_30 : gMok g_T g_F g_Y g_B g_R g_Cl g_E g_nests g_good 30 := ⟨by decide +kernel, rfl, g_rows lk_2 lf_2 rc_30⟩
theorem rc_31 : K_31.all (gCk lk_2 false (g_B 31)) = true := by decide +kernel
theorem mo_31 : gMok g_T g_F g_Y g_B g_R g_Cl g_E g_nests g_good 31 := ⟨by decide +kernel, rfl, g_rows lk_2 lf_2 rc_31⟩
theorem rc_32 : K_32.all (gCk lk_2 false (g_B 32)) = true := by decide +kernel
theorem mo_32 : gMok g_T g_F g_Y g_B g_R g_Cl g_E g_nests g_good 32 := ⟨by decide +kernel, rfl, g_rows lk_2 lf_2 rc_32⟩
theorem rc_33 : K_33.all (gCk lk_2 false (g_B 33)) = true := by decide +kernel
theorem mo_33 : gMok g_T g_F g_Y g_B g_R g_Cl g_E g_nests g_good 33 := ⟨by decide +kernel, rfl, g_rows lk_2 lf_2 rc_33⟩
theorem rc_34 : K_34.all (gCk lk_3 true (g_B 34)) = true := by decide +kernel
theorem mo_34 : gMok g_T g_F g_Y g_B g_R g_Cl g_E g_nests g_good 34 := ⟨by decide +kernel, rfl, g_rows lk_3 lf_3 rc_34⟩
theorem rc_35 : K_35.all (gCk lk_3 false (g_B 35)) = true := by decide +kernel
theorem mo_35 : gMok g_T g_F g_Y g_B g_R g_Cl g_E g_nests g_good 35 := ⟨by decide +kernel, rfl, g_rows lk_3 lf_3 rc_35⟩
theorem rc_36 : K_36.all (gCk lk_3 false (g_B 36)) = true := by decide +kernel
theorem mo_36 : gMok g_T g_F g_Y g_B g_R g_Cl g_E g_nests g_good 36 := ⟨by decide +kernel, rfl, g_rows lk_3 lf_3 rc_36⟩
theorem rc_37 : K_37.all (gCk lk_3 false (g_B 37)) = true := by decide +kernel
theorem mo_37 : gMok g_T g_F g_Y g_B g_R g_Cl g_E g_nests g_good 37 := ⟨by decide +kernel, rfl, g_rows lk_3 lf_3 rc_37⟩
theorem rc_38 : K_38.all (gCk lk_3 false (g_B 38)) = true := by decide +kernel
theorem mo_38 : gMok g_T g_F g_Y g_B g_R g_Cl g_E g_nests g_good 38 := ⟨by decide +kernel, rfl, g_rows lk_3 lf_3 rc_38⟩
theorem rc_39 : K_39.all (gCk lk_3 false (g_B 39)) = true := by decide +kernel
theorem mo_39 : gMok g_T g_F g_Y g_B g_R g_Cl g_E g_nests g_good 39 := ⟨by decide +kernel, rfl, g_rows lk_3 lf_3 rc_39⟩
theorem rc_40 : K_40.all (gCk lk_3 false (g_B 40)) = true := by decide +kernel
theorem mo_40 : gMok g_T g_F g_Y g_B g_R g_Cl g_E g_nests g_good 40 := ⟨by decide +kernel, rfl, g_rows lk_3 lf_3 rc_40⟩
theorem rc_41 : K_41.all (gCk lk_3 false (g_B 41)) = true := by decide +kernel
theorem mo_41 : gMok g_T g_F g_Y g_B g_R g_Cl g_E g_nests g_good 41 := ⟨by decide +kernel, rfl, g_rows lk_3 lf_3 rc_41⟩
theorem rc_42 : K_42.all (gCk lk_3 false (g_B 42)) = true := by decide +kernel
theorem mo_42 : gMok g_T g_F g_Y g_B g_R g_Cl g_E g_nests g_good 42 := ⟨by decide +kernel, rfl, g_rows lk_3 lf_3 rc_42⟩
theorem rc_43 : K_43.all (gCk lk_3 false (g_B 43)) = true := by decide +kernel
theorem mo_43 : gMok g_T g_F g_Y g_B g_R g_Cl g_E g_nests g_good 43 := ⟨by decide +kernel, rfl, g_rows lk_3 lf_3 rc_43⟩
theorem rc_44 : K_44.all (gCk lk_3 false (g_B 44)) = true := by decide +kernel
theorem mo_44 : gMok g_T g_F g_Y g_B g_R g_Cl g_E g_nests g_good 44 := ⟨by decide +kernel, rfl, g_rows lk_3 lf_3 rc_44⟩
theorem rc_45 : K_45.all (gCk lk_3 false (g_B 45)) = true := by decide +kernel
theorem mo_45 : gMok g_T g_F g_Y g_B g_R g_Cl g_E g_nests g_good 45 := ⟨by decide +kernel, rfl, g_rows lk_3 lf_3 rc_45⟩
theorem rc_46 : K_46.all (gCk lk_3 false (g_B 46)) = true := by decide +kernel
theorem mo_46 : gMok g_T g_F g_Y g_B g_R g_Cl g_E g_nests g_good 46 := ⟨by decide +kernel, rfl, g_rows lk_3 lf_3 rc_46⟩
theorem rc_47 : K_47.all (gCk lk_3 false (g_B 47)) = true := by decide +kernel
theorem mo_47 : gMok g_T g_F g_Y g_B g_R g_Cl g_E g_nests g_good 47 := ⟨by decide +kernel, rfl, g_rows lk_3 lf_3 rc_47⟩
theorem rc_48 : K_48.all (gCk lk_3 false (g_B 48)) = true := by decide +kernel
theorem mo_48 : gMok g_T g_F g_Y g_B g_R g_Cl g_E g_nests g_good 48 := ⟨by decide +kernel, rfl, g_rows lk_3 lf_3 rc_48⟩
theorem rc_49 : K_49.all (gCk lk_3 false (g_B 49)) = true := by decide +kernel
theorem mo_49 : gMok g_T g_F g_Y g_B g_R g_Cl g_E g_nests g_good 49 := ⟨by decide +kernel, rfl, g_rows lk_3 lf_3 rc_49⟩
theorem rc_50 : K_50.all (gCk lk_3 false (g_B 50)) = true := by decide +kernel
theorem mo_50 : gMok g_T g_F g_Y g_B g_R g_Cl g_E g_nests g_good 50 := ⟨by decide +kernel, rfl, g_rows lk_3 lf_3 rc_50⟩
theorem rc_51 : K_51.all (gCk lk_3 false (g_B 51)) = true := by decide +kernel
theorem mo_51 : gMok g_T g_F g_Y g_B g_R g_Cl g_E g_nests g_good 51 := ⟨by decide +kernel, rfl, g_rows lk_3 lf_3 rc_51⟩
theorem rc_52 : K_52.all (gCk lk_3 false (g_B 52)) = true := by decide +kernel
theorem mo_52 : gMok g_T g_F g_Y g_B g_R g_Cl g_E g_nests g_good 52 := ⟨by decide +kernel, rfl, g_rows lk_3 lf_3 rc_52⟩
theorem rc_53 : K_53.all (gCk lk_3 false (g_B 53)) = true := by decide +kernel
theorem mo_53 : gMok g_T g_F g_Y g_B g_R g_Cl g_E g_nests g_good 53 := ⟨by decide +kernel, rfl, g_rows lk_3 lf_3 rc_53⟩
theorem rc_54 : K_54.all (gCk lk_3 false (g_B 54)) = true := by decide +kernel
theorem mo_54 : gMok g_T g_F g_Y g_B g_R g_Cl g_E g_nests g_good 54 := ⟨by decide +kernel, rfl, g_rows lk_3 lf_3 rc_54⟩
theorem rc_55 : K_55.all (gCk lk_3 false (g_B 55)) = true := by decide +kernel
theorem mo_55 : gMok g_T g_F g_Y g_B g_R g_Cl g_E g_nests g_good 55 := ⟨by decide +kernel, rfl, g_rows lk_3 lf_3 rc_55⟩
theorem rc_56 : K_56.all (gCk lk_3 false (g_B 56)) = true := by decide +kernel
theorem mo_56 : gMok g_T g_F g_Y g_B g_R g_Cl g_E g_nests g_good 56 := ⟨by decide +kernel, rfl, g_rows lk_3 lf_3 rc_56⟩
theorem rc_57 : K_57.all (gCk lk_3 false (g_B 57)) = true := by decide +kernel
theorem mo_57 : gMok g_T g_F g_Y g_B g_R g_Cl g_E g_nests g_good 57 := ⟨by decide +kernel, rfl, g_rows lk_3 lf_3 rc_57⟩
theorem rc_58 : K_58.all (gCk lk_3 false (g_B 58)) = true := by decide +kernel
theorem mo_58 : gMok g_T g_F g_Y g_B g_R g_Cl g_E g_nests g_good 58 := ⟨by decide +kernel, rfl, g_rows lk_3 lf_3 rc_58⟩
theorem rc_59 : K_59.all (gCk lk_3 false (g_B 59)) = true := by decide +kernel
theorem mo_59 : gMok g_T g_F g_Y g_B g_R g_Cl g_E g_nests g_good 59 := ⟨by decide +kernel, rfl, g_rows lk_3 lf_3 rc_59⟩
theorem rc_60 : K_60.all (gCk lk_3 false (g_B 60)) = true := by decide +kernel
theorem mo_60 : gMok g_T g_F g_Y g_B g_R g_Cl g_E g_nests g_good 60 := ⟨by decide +kernel, rfl, g_rows lk_3 lf_3 rc_60⟩
theorem rc_61 : K_61.all (gCk lk_3 false (g_B 61)) = true := by decide +kernel
theorem mo_61 : gMok g_T g_F g_Y g_B g_R g_Cl g_E g_nests g_good 61 := ⟨by decide +kernel, rfl, g_rows lk_3 lf_3 rc_61⟩
theorem rc_62 : K_62.all (gCk lk_3 false (g_B 62)) = true := by decide +kernel
theorem mo_62 : gMok g_T g_F g_Y g_B g_R g_Cl g_E g_nests g_good 62 := ⟨by decide +kernel, rfl, g_rows lk_3 lf_3 rc_62⟩
theorem rc_63 : K_63.all (gCk lk_3 false (g_B 63)) = true := by decide +kernel
theorem mo_63 : gMok g_T g_F g_Y g_B g_R g_Cl g_E g_nests g_good 63 := ⟨by decide +kernel, rfl, g_rows lk_3 lf_3 rc_63⟩
theorem rc_64 : K_64.all (gCk lk_3 false (g_B 64)) = true := by decide +kernel
theorem mo_64 : gMok g_T g_F g_Y g_B g_R g_Cl g_E g_nests g_good 64 := ⟨by decide +kernel, rfl, g_rows lk_3 lf_3 rc_64⟩
theorem rc_65 : K_65.all (gCk lk_4 true (g_B 65)) = true := by decide +kernel
theorem mo_65 : gMok g_T g_F g_Y g_B g_R g_Cl g_E g_nests g_good 65 := ⟨by decide +kernel, rfl, g_rows lk_4 lf_4 rc_65⟩
theorem rc_66 : K_66.all (gCk lk_5 true (g_B 66)) = true := by decide +kernel
theorem mo_66 : gMok g_T g_F g_Y g_B g_R g_Cl g_E g_nests g_good 66 := ⟨by decide +kernel, rfl, g_rows lk_5 lf_5 rc_66⟩
theorem rc_67 : K_67.all (gCk lk_5 false (g_B 67)) = true := by decide +kernel
theorem mo_67 : gMok g_T g_F g_Y g_B g_R g_Cl g_E g_nests g_good 67 := ⟨by decide +kernel, rfl, g_rows lk_5 lf_5 rc_67⟩
theorem rc_68 : K_68.all (gCk lk_5 false (g_B 68)) = true := by decide +kernel
theorem mo_68 : gMok g_T g_F g_Y g_B g_R g_Cl g_E g_nests g_good 68 := ⟨by decide +kernel, rfl, g_rows lk_5 lf_5 rc_68⟩
theorem rc_69 : K_69.all (gCk lk_5 false (g_B 69)) = true := by decide +kernel
theorem mo_69 : gMok g_T g_F g_Y g_B g_R g_Cl g_E g_nests g_good 69 := ⟨by decide +kernel, rfl, g_rows lk_5 lf_5 rc_69⟩
theorem rc_70 : K_70.all (gCk lk_5 false (g_B 70)) = true := by decide +kernel
theorem mo_70 : gMok g_T g_F g_Y g_B g_R g_Cl g_E g_nests g_good 70 := ⟨by decide +kernel, rfl, g_rows lk_5 lf_5 rc_70⟩
theorem rc_71 : K_71.all (gCk lk_5 false (g_B 71)) = true := by decide +kernel
theorem mo_71 : gMok g_T g_F g_Y g_B g_R g_Cl g_E g_nests g_good 71 := ⟨by decide +kernel, rfl, g_rows lk_5 lf_5 rc_71⟩
theorem rc_72 : K_72.all (gCk lk_5 false (g_B 72)) = true := by decide +kernel
theorem mo_72 : gMok g_T g_F g_Y g_B g_R g_Cl g_E g_nests g_good 72 := ⟨by decide +kernel, rfl, g_rows lk_5 lf_5 rc_72⟩
theorem rc_73 : K_73.all (gCk lk_5 false (g_B 73)) = true := by decide +kernel
theorem mo_73 : gMok g_T g_F g_Y g_B g_R g_Cl g_E g_nests g_good 73 := ⟨by decide +kernel, rfl, g_rows lk_5 lf_5 rc_73⟩
theorem rc_74 : K_74.all (gCk lk_6 true (g_B 74)) = true := by decide +kernel
theorem mo_74 : gMok g_T g_F g_Y g_B g_R g_Cl g_E g_nests g_good 74 := ⟨by decide +kernel, rfl, g_rows lk_6 lf_6 rc_74⟩
theorem rc_76 : K_76.all (gCk lk_6 false (g_B 76)) = true := by decide +kernel
theorem mo_76 : gMok g_T g_F g_Y g_B g_R g_Cl g_E g_nests g_good 76 := ⟨by decide +kernel, rfl, g_rows lk_6 lf_6 rc_76⟩
theorem rc_77 : K_77.all (gCk lk_6 false (g_B 77)) = true := by decide +kernel
theorem mo_77 : gMok g_T g_F g_Y g_B g_R g_Cl g_E g_nests g_good 77 := ⟨by decide +kernel, rfl, g_rows lk_6 lf_6 rc_77⟩
theorem rc_78 : K_78.all (gCk lk_6 false (g_B 78)) = true := by decide +kernel
theorem mo_78 : gMok g_T g_F g_Y g_B g_R g_Cl g_E g_nests g_good 78 := ⟨by decide +kernel, rfl, g_rows lk_6 lf_6 rc_78⟩
theorem rc_79 : K_79.all (gCk lk_6 false (g_B 79)) = true := by decide +kernel
theorem mo_79 : gMok g_T g_F g_Y g_B g_R g_Cl g_E g_nests g_good 79 := ⟨by decide +kernel, rfl, g_rows lk_6 lf_6 rc_79⟩
theorem rc_81 : K_81.all (gCk lk_6 false (g_B 81)) = true := by decide +kernel
theorem mo_81 : gMok g_T g_F g_Y g_B g_R g_Cl g_E g_nests g_good 81 := ⟨by decide +kernel, rfl, g_rows lk_6 lf_6 rc_81⟩
theorem rc_82 : K_82.all (gCk lk_6 false (g_B 82)) = true := by decide +kernel
theorem mo_82 : gMok g_T g_F g_Y g_B g_R g_Cl g_E g_nests g_good 82 := ⟨by decide +kernel, rfl, g_rows lk_6 lf_6 rc_82⟩
theorem rc_83 : K_83.all (gCk lk_6 false (g_B 83)) = true := by decide +kernel
theorem mo_83 : gMok g_T g_F g_Y g_B g_R g_Cl g_E g_nests g_good 83 := ⟨by decide +kernel, rfl, g_rows lk_6 lf_6 rc_83⟩
theorem rc_85 : K_85.all (gCk lk_6 false (g_B 85)) = true := by decide +kernel
theorem mo_85 : gMok g_T g_F g_Y g_B g_R g_Cl g_E g_nests g_good 85 := ⟨by decide +kernel, rfl, g_rows lk_6 lf_6 rc_85⟩
theorem rc_86 : K_86.all (gCk lk_6 false (g_B 86)) = true := by decide +kernel
theorem mo_86 : gMok g_T g_F g_Y g_B g_R g_Cl g_E g_nests g_good 86 := ⟨by decide +kernel, rfl, g_rows lk_6 lf_6 rc_86⟩
theorem rc_87 : K_87.all (gCk lk_6 false (g_B 87)) = true := by decide +kernel
theorem mo_87 : gMok g_T g_F g_Y g_B g_R g_Cl g_E g_nests g_good 87 := ⟨by decide +kernel, rfl, g_rows lk_6 lf_6 rc_87⟩
theorem rc_88 : K_88.all (gCk lk_6 false (g_B 88)) = true := by decide +kernel
theorem mo_88 : gMok g_T g_F g_Y g_B g_R g_Cl g_E g_nests g_good 88 := ⟨by decide +kernel, rfl, g_rows lk_6 lf_6 rc_88⟩
theorem rc_89 : K_89.all (gCk lk_6 false (g_B 89)) = true := by decide +kernel
theorem mo_89 : gMok g_T g_F g_Y g_B g_R g_Cl g_E g_nests g_good 89 := ⟨by decide +kernel, rfl, g_rows lk_6 lf_6 rc_89⟩
theorem rc_90 : K_90.all (gCk lk_6 false (g_B 90)) = true := by decide +kernel
theorem mo_90 : gMok g_T g_F g_Y g_B g_R g_Cl g_E g_nests g_good 90 := ⟨by decide +kernel, rfl, g_rows lk_6 lf_6 rc_90⟩
theorem rc_91 : K_91.all (gCk lk_6 false (g_B 91)) = true := by decide +kernel
theorem mo_91 : gMok g_T g_F g_Y g_B g_R g_Cl g_E g_nests g_good 91 := ⟨by decide +kernel, rfl, g_rows lk_6 lf_6 rc_91⟩
theorem rc_92 : K_92.all (gCk lk_6 false (g_B 92)) = true := by decide +kernel
theorem mo_92 : gMok g_T g_F g_Y g_B g_R g_Cl g_E g_nests g_good 92 := ⟨by decide +kernel, rfl, g_rows lk_6 lf_6 rc_92⟩
theorem rc_93 : K_93.all (gCk lk_6 false (g_B 93)) = true := by decide +kernel
theorem mo_93 : gMok g_T g_F g_Y g_B g_R g_Cl g_E g_nests g_good 93 := ⟨by decide +kernel, rfl, g_rows lk_6 lf_6 rc_93⟩
theorem rc_94 : K_94.all (gCk lk_6 false (g_B 94)) = true := by decide +kernel
theorem mo_94 : gMok g_T g_F g_Y g_B g_R g_Cl g_E g_nests g_good 94 := ⟨by decide +kernel, rfl, g_rows lk_6 lf_6 rc_94⟩
theorem rc_95 : K_95.all (gCk lk_6 false (g_B 95)) = true := by decide +kernel
theorem mo_95 : gMok g_T g_F g_Y g_B g_R g_Cl g_E g_nests g_good 95 := ⟨by decide +kernel, rfl, g_rows lk_6 lf_6 rc_95⟩
theorem rc_96 : K_96.all (gCk lk_6 false (g_B 96)) = true := by decide +kernel
theorem mo_96 : gMok g_T g_F g_Y g_B g_R g_Cl g_E g_nests g_good 96 := ⟨by decide +kernel, rfl, g_rows lk_6 lf_6 rc_96⟩
theorem rc_97 : K_97.all (gCk lk_6 false (g_B 97)) = true := by decide +kernel
theorem mo_97 : gMok g_T g_F g_Y g_B g_R g_Cl g_E g_nests g_good 97 := ⟨by decide +kernel, rfl, g_rows lk_6 lf_6 rc_97⟩
theorem rc_98 : K_98.all (gCk lk_6 false (g_B 98)) = true := by decide +kernel
theorem mo_98 : gMok g_T g_F g_Y g_B g_R g_Cl g_E g_nests g_good 98 := ⟨by decide +kernel, rfl, g_rows lk_6 lf_6 rc_98⟩
theorem rc_99 : K_99.all (gCk lk_6 false (g_B 99)) = true := by decide +kernel
theorem mo_99 : gMok g_T g_F g_Y g_B g_R g_Cl g_E g_nests g_good 99 := ⟨by decide +kernel, rfl, g_rows lk_6 lf_6 rc_99⟩
theorem rc_100 : K_100.all (gCk lk_6 false (g_B 100)) = true := by decide +kernel
theorem mo_100 : gMok g_T g_F g_Y g_B g_R g_Cl g_E g_nests g_good 100 := ⟨by decide +kernel, rfl, g_rows lk_6 lf_6 rc_100⟩
theorem rc_101 : K_101.all (gCk lk_6 false (g_B 101)) = true := by decide +kernel
theorem mo_101 : gMok g_T g_F g_Y g_B g_R g_Cl g_E g_nests g_good 101 := ⟨by decide +kernel, rfl, g_rows lk_6 lf_6 rc_101⟩
theorem rc_102 : K_102.all (gCk lk_6 false (g_B 102)) = true := by decide +kernel
theorem mo_102 : gMok g_T g_F g_Y g_B g_R g_Cl g_E g_nests g_good 102 := ⟨by decide +kernel, rfl, g_rows lk_6 lf_6 rc_102⟩
theorem rc_103 : K_103.all (gCk lk_6 false (g_B 103)) = true := by decide +kernel
theorem mo_103 : gMok g_T g_F g_Y g_B g_R g_Cl g_E g_nests g_good 103 := ⟨by decide +kernel, rfl, g_rows lk_6 lf_6 rc_103⟩
theorem rc_104 : K_104.all (gCk lk_6 false (g_B 104)) = true := by decide +kernel
theorem mo_104 : gMok g_T g_F g_Y g_B g_R g_Cl g_E g_nests g_good 104 := ⟨by decide +kernel, rfl, g_rows lk_6 lf_6 rc_104⟩
theorem rc_105 : K_105.all (gCk lk_6 false (g_B 105)) = true := by decide +kernel
theorem mo_105 : gMok g_T g_F g_Y g_B g_R g_Cl g_E g_nests g_good 105 := ⟨by decide +kernel, rfl, g_rows lk_6 lf_6 rc_105⟩
theorem rc_106 : K_106.all (gCk lk_6 false (g_B 106)) = true := by decide +kernel
theorem mo_106 : gMok g_T g_F g_Y g_B g_R g_Cl g_E g_nests g_good 106 := ⟨by decide +kernel, rfl, g_rows lk_6 lf_6 rc_106⟩
theorem rc_107 : K_107.all (gCk lk_6 false (g_B 107)) = true := by decide +kernel
theorem mo_107 : gMok g_T g_F g_Y g_B g_R g_Cl g_E g_nests g_good 107 := ⟨by decide +kernel, rfl, g_rows lk_6 lf_6 rc_107⟩
theorem rc_108 : K_108.all (gCk lk_6 false (g_B 108)) = true := by decide +kernel
theorem mo_108 : gMok g_T g_F g_Y g_B g_R g_Cl g_E g_nests g_good 108 := ⟨by decide +kernel, rfl, g_rows lk_6 lf_6 rc_108⟩
theorem rc_109 : K_109.all (gCk lk_6 false (g_B 109)) = true := by decide +kernel
theorem mo_109 : gMok g_T g_F g_Y g_B g_R g_Cl g_E g_nests g_good 109 := ⟨by decide +kernel, rfl, g_rows lk_6 lf_6 rc_109⟩
theorem rc_110 : K_110.all (gCk lk_6 false (g_B 110)) = true := by decide +kernel
theorem mo_110 : gMok g_T g_F g_Y g_B g_R g_Cl g_E g_nests g_good 110 := ⟨by decide +kernel, rfl, g_rows lk_6 lf_6 rc_110⟩
theorem rc_111 : K_111.all (gCk lk_6 false (g_B 111)) = true := by decide +kernel
theorem mo_111 : gMok g_T g_F g_Y g_B g_R g_Cl g_E g_nests g_good 111 := ⟨by decide +kernel, rfl, g_rows lk_6 lf_6 rc_111⟩
theorem rc_112 : K_112.all (gCk lk_6 false (g_B 112)) = true := by decide +kernel
theorem mo_112 : gMok g_T g_F g_Y g_B g_R g_Cl g_E g_nests g_good 112 := ⟨by decide +kernel, rfl, g_rows lk_6 lf_6 rc_112⟩
theorem rc_113 : K_113.all (gCk lk_6 false (g_B 113)) = true := by decide +kernel
theorem mo_113 : gMok g_T g_F g_Y g_B g_R g_Cl g_E g_nests g_good 113 := ⟨by decide +kernel, rfl, g_rows lk_6 lf_6 rc_113⟩
theorem rc_114 : K_114.all (gCk lk_6 false (g_B 114)) = true := by decide +kernel
theorem mo_114 : gMok g_T g_F g_Y g_B g_R g_Cl g_E g_nests g_good 114 := ⟨by decide +kernel, rfl, g_rows lk_6 lf_6 rc_114⟩
theorem rc_115 : K_115.all (gCk lk_6 false (g_B 115)) = true := by decide +kernel
theorem mo_115 : gMok g_T g_F g_Y g_B g_R g_Cl g_E g_nests g_good 115 := ⟨by decide +kernel, rfl, g_rows lk_6 lf_6 rc_115⟩
theorem rc_116 : K_116.all (gCk lk_6 false (g_B 116)) = true := by decide +kernel
theorem mo_116 : gMok g_T g_F g_Y g_B g_R g_Cl g_E g_nests g_good 116 := ⟨by decide +kernel, rfl, g_rows lk_6 lf_6 rc_116⟩
theorem rc_117 : K_117.all (gCk lk_6 false (g_B 117)) = true := by decide +kernel
theorem mo_117 : gMok g_T g_F g_Y g_B g_R g_Cl g_E g_nests g_good 117 := ⟨by decide +kernel, rfl, g_rows lk_6 lf_6 rc_117⟩
theorem rc_118 : K_118.all (gCk lk_6 false (g_B 118)) = true := by decide +kernel
theorem mo_118 : gMok g_T g_F g_Y g_B g_R g_Cl g_E g_nests g_good 118 := ⟨by decide +kernel, rfl, g_rows lk_6 lf_6 rc_118⟩
theorem rc_119 : K_119.all (gCk lk_6 false (g_B 119)) = true := by decide +kernel
theorem mo_119 : gMok g_T g_F g_Y g_B g_R g_Cl g_E g_nests g_good 119 := ⟨by decide +kernel, rfl, g_rows lk_6 lf_6 rc_119⟩
theorem rc_120 : K_120.all (gCk lk_6 false (g_B 120)) = true := by decide +kernel
theorem mo_120 : gMok g_T g_F g_Y g_B g_R g_Cl g_E g_nests g_good 120 := ⟨by decide +kernel, rfl, g_rows lk_6 lf_6 rc_120⟩
theorem rc_121 : K_121.all (gCk lk_6 false (g_B 121)) = true := by decide +kernel
theorem mo_121 : gMok g_T g_F g_Y g_B g_R g_Cl g_E g_nests g_good 121 := ⟨by decide +kernel, rfl, g_rows lk_6 lf_6 rc_121⟩
theorem rc_122 : K_122.all (gCk lk_6 false (g_B 122)) = true := by decide +kernel
theorem mo_122 : gMok g_T g_F g_Y g_B g_R g_Cl g_E g_nests g_good 122 := ⟨by decide +kernel, rfl, g_rows lk_6 lf_6 rc_122⟩
theorem rc_123 : K_123.all (gCk lk_6 false (g_B 123)) = true := by decide +kernel
theorem mo_123 : gMok g_T g_F g_Y g_B g_R g_Cl g_E g_nests g_good 123 := ⟨by decide +kernel, Or.inl ⟨_, rfl⟩, g_rows lk_6 lf_6 rc_123⟩
theorem rc_124 : K_124.all (gCk lk_10 false (g_B 124)) = true := by decide +kernel
theorem mo_124 : gMok g_T g_F g_Y g_B g_R g_Cl g_E g_nests g_good 124 := ⟨by decide +kernel, rfl, g_rows lk_10 lf_10 rc_124⟩
theorem rc_125 : K_125.all (gCk lk_10 false (g_B 125)) = true := by decide +kernel
theorem mo_125 : gMok g_T g_F g_Y g_B g_R g_Cl g_E g_nests g_good 125 := ⟨by decide +kernel, rfl, g_rows lk_10 lf_10 rc_125⟩
theorem rc_126 : K_126.all (gCk lk_10 false (g_B 126)) = true := by decide +kernel
theorem mo_126 : gMok g_T g_F g_Y g_B g_R g_Cl g_E g_nests g_good 126 := ⟨by decide +kernel, rfl, g_rows lk_10 lf_10 rc_126⟩
theorem rc_127 : K_127.all (gCk lk_10 false (g_B 127)) = true := by decide +kernel
theorem mo_127 : gMok g_T g_F g_Y g_B g_R g_Cl g_E g_nests g_good 127 := ⟨by decide +kernel, rfl, g_rows lk_10 lf_10 rc_127⟩
theorem rc_128_0 : ((K_128.drop 0).take 60).all (gCk lk_10 false (g_B 128)) = true := by decide +kernel
theorem rc_128_60 : ((K_128.drop 60).take 60).all (gCk lk_10 false (g_B 128)) = true := by decide +kernel
theorem rc_128_120 : ((K_128.drop 120).take 60).all (gCk lk_10 false (g_B 128)) = true := by decide +kernel
theorem rc_128_180 : ((K_128.drop 180).take 60).all (gCk lk_10 false (g_B 128)) = true := by decide +kernel
theorem rc_128_e : (K_128.drop 240).all (gCk lk_10 false (g_B 128)) = true := by decide +kernel
theorem rc_128_180x : (K_128.drop 180).all (gCk lk_10 false (g_B 128)) = true := all_cut (a := 180) (n := 60) rc_128_180 rc_128_e
theorem rc_128_120x : (K_128.drop 120).all (gCk lk_10 false (g_B 128)) = true := all_cut (a := 120) (n := 60) rc_128_120 rc_128_180x
theorem rc_128_60x : (K_128.drop 60).all (gCk lk_10 false (g_B 128)) = true := all_cut (a := 60) (n := 60) rc_128_60 rc_128_120x
theorem rc_128_0x : (K_128.drop 0).all (gCk lk_10 false (g_B 128)) = true := all_cut (a := 0) (n := 60) rc_128_0 rc_128_60x
theorem rc_128 : K_128.all (gCk lk_10 false (g_B 128)) = true := by
  have h := rc_128_0x
  rw [List.drop_zero] at h
  exact h
theorem mo_128 : gMok g_T g_F g_Y g_B g_R g_Cl g_E g_nests g_good 128 := ⟨by decide +kernel, rfl, g_rows lk_10 lf_10 rc_128⟩
theorem rc_129 : K_129.all (gCk lk_10 false (g_B 129)) = true := by decide +kernel
theorem mo_129 : gMok g_T g_F g_Y g_B g_R g_Cl g_E g_nests g_good 129 := ⟨by decide +kernel, rfl, g_rows lk_10 lf_10 rc_129⟩
theorem rc_130 : K_130.all (gCk lk_10 false (g_B 130)) = true := by decide +kernel
theorem mo_130 : gMok g_T g_F g_Y g_B g_R g_Cl g_E g_nests g_good 130 := ⟨by decide +kernel, rfl, g_rows lk_10 lf_10 rc_130⟩
theorem rc_131_0 : ((K_131.drop 0).take 60).all (gCk lk_10 false (g_B 131)) = true := by decide +kernel
theorem rc_131_60 : ((K_131.drop 60).take 60).all (gCk lk_10 false (g_B 131)) = true := by decide +kernel
theorem rc_131_120 : ((K_131.drop 120).take 60).all (gCk lk_10 false (g_B 131)) = true := by decide +kernel
theorem rc_131_180 : ((K_131.drop 180).take 60).all (gCk lk_10 false (g_B 131)) = true := by decide +kernel
theorem rc_131_e : (K_131.drop 240).all (gCk lk_10 false (g_B 131)) = true := by decide +kernel
theorem rc_131_180x : (K_131.drop 180).all (gCk lk_10 false (g_B 131)) = true := all_cut (a := 180) (n := 60) rc_131_180 rc_131_e
theorem rc_131_120x : (K_131.drop 120).all (gCk lk_10 false (g_B 131)) = true := all_cut (a := 120) (n := 60) rc_131_120 rc_131_180x
theorem rc_131_60x : (K_131.drop 60).all (gCk lk_10 false (g_B 131)) = true := all_cut (a := 60) (n := 60) rc_131_60 rc_131_120x
theorem rc_131_0x : (K_131.drop 0).all (gCk lk_10 false (g_B 131)) = true := all_cut (a := 0) (n := 60) rc_131_0 rc_131_60x
theorem rc_131 : K_131.all (gCk lk_10 false (g_B 131)) = true := by
  have h := rc_131_0x
  rw [List.drop_zero] at h
  exact h
theorem mo_131 : gMok g_T g_F g_Y g_B g_R g_Cl g_E g_nests g_good 131 := ⟨by decide +kernel, rfl, g_rows lk_10 lf_10 rc_131⟩
theorem rc_132_0 : ((K_132.drop 0).take 60).all (gCk lk_10 false (g_B 132)) = true := by decide +kernel
theorem rc_132_60 : ((K_132.drop 60).take 60).all (gCk lk_10 false (g_B 132)) = true := by decide +kernel
theorem rc_132_120 : ((K_132.drop 120).take 60).all (gCk lk_10 false (g_B 132)) = true := by decide +kernel
theorem rc_132_e : (K_132.drop 180).all (gCk lk_10 false (g_B 132)) = true := by decide +kernel
theorem rc_132_120x : (K_132.drop 120).all (gCk lk_10 false (g_B 132)) = true := all_cut (a := 120) (n := 60) rc_132_120 rc_132_e
theorem rc_132_60x : (K_132.drop 60).all (gCk lk_10 false (g_B 132)) = true := all_cut (a := 60) (n := 60) rc_132_60 rc_132_120x
theorem rc_132_0x : (K_132.drop 0).all (gCk lk_10 false (g_B 132)) = true := all_cut (a := 0) (n := 60) rc_132_0 rc_132_60x
theorem rc_132 : K_132.all (gCk lk_10 false (g_B 132)) = true := by
  have h := rc_132_0x
  rw [List.drop_zero] at h
  exact h
theorem mo_132 : gMok g_T g_F g_Y g_B g_R g_Cl g_E g_nests g_good 132 := ⟨by decide +kernel, rfl, g_rows lk_10 lf_10 rc_132⟩
theorem rc_133 : K_133.all (gCk lk_10 false (g_B 133)) = true := by decide +kernel
theorem mo_133 : gMok g_T g_F g_Y g_B g_R g_Cl g_E g_nests g_good 133 := ⟨by decide +kernel, rfl, g_rows lk_10 lf_10 rc_133⟩
theorem rc_134_0 : ((K_134.drop 0).take 60).all (gCk lk_10 false (g_B 134)) = true := by decide +kernel
theorem rc_134_60 : ((K_134.drop 60).take 60).all (gCk lk_10 false (g_B 134)) = true := by decide +kernel
theorem rc_134_120 : ((K_134.drop 120).take 60).all (gCk lk_10 false (g_B 134)) = true := by decide +kernel
theorem rc_134_180 : ((K_134.drop 180).take 60).all (gCk lk_10 false (g_B 134)) = true := by decide +kernel
theorem rc_134_e : (K_134.drop 240).all (gCk lk_10 false (g_B 134)) = true := by decide +kernel
theorem rc_134_180x : (K_134.drop 180).all (gCk lk_10 false (g_B 134)) = true := all_cut (a := 180) (n := 60) rc_134_180 rc_134_e
theorem rc_134_120x : (K_134.drop 120).all (gCk lk_10 false (g_B 134)) = true := all_cut (a := 120) (n := 60) rc_134_120 rc_134_180x
theorem rc_134_60x : (K_134.drop 60).all (gCk lk_10 false (g_B 134)) = true := all_cut (a := 60) (n := 60) rc_134_60 rc_134_120x
theorem rc_134_0x : (K_134.drop 0).all (gCk lk_10 false (g_B 134)) = true := all_cut (a := 0) (n := 60) rc_134_0 rc_134_60x
theorem rc_134 : K_134.all (gCk lk_10 false (g_B 134)) = true := by
  have h := rc_134_0x
  rw [List.drop_zero] at h
  exact h
theorem mo_134 : gMok g_T g_F g_Y g_B g_R g_Cl g_E g_nests g_good 134 := ⟨by decide +kernel, rfl, g_rows lk_10 lf_10 rc_134⟩
theorem rc_135_0 : ((K_135.drop 0).take 60).all (gCk lk_10 false (g_B 135)) = true := by decide +kernel
theorem rc_135_60 : ((K_135.drop 60).take 60).all (gCk lk_10 false (g_B 135)) = true := by decide +kernel
theorem rc_135_120 : ((K_135.drop 120).take 60).all (gCk lk_10 false (g_B 135)) = true := by decide +kernel
theorem rc_135_e : (K_135.drop 180).all (gCk lk_10 false (g_B 135)) = true := by decide +kernel
theorem rc_135_120x : (K_135.drop 120).all (gCk lk_10 false (g_B 135)) = true := all_cut (a := 120) (n := 60) rc_135_120 rc_135_e
theorem rc_135_60x : (K_135.drop 60).all (gCk lk_10 false (g_B 135)) = true := all_cut (a := 60) (n := 60) rc_135_60 rc_135_120x
theorem rc_135_0x : (K_135.drop 0).all (gCk lk_10 false (g_B 135)) = true := all_cut (a := 0) (n := 60) rc_135_0 rc_135_60x
theorem rc_135 : K_135.all (gCk lk_10 false (g_B 135)) = true := by
  have h := rc_135_0x
  rw [List.drop_zero] at h
  exact h
theorem mo_135 : gMok g_T g_F g_Y g_B g_R g_Cl g_E g_nests g_good 135 := ⟨by decide +kernel, rfl, g_rows lk_10 lf_10 rc_135⟩
theorem rc_136_0 : ((K_136.drop 0).take 60).all (gCk lk_10 false (g_B 136)) = true := by decide +kernel
theorem rc_136_60 : ((K_136.drop 60).take 60).all (gCk lk_10 false (g_B 136)) = true := by decide +kernel
theorem rc_136_120 : ((K_136.drop 120).take 60).all (gCk lk_10 false (g_B 136)) = true := by decide +kernel
theorem rc_136_180 : ((K_136.drop 180).take 60).all (gCk lk_10 false (g_B 136)) = true := by decide +kernel
theorem rc_136_240 : ((K_136.drop 240).take 60).all (gCk lk_10 false (g_B 136)) = true := by decide +kernel
theorem rc_136_e : (K_136.drop 300).all (gCk lk_10 false (g_B 136)) = true := by decide +kernel
theorem rc_136_240x : (K_136.drop 240).all (gCk lk_10 false (g_B 136)) = true := all_cut (a := 240) (n := 60) rc_136_240 rc_136_e
theorem rc_136_180x : (K_136.drop 180).all (gCk lk_10 false (g_B 136)) = true := all_cut (a := 180) (n := 60) rc_136_180 rc_136_240x
theorem rc_136_120x : (K_136.drop 120).all (gCk lk_10 false (g_B 136)) = true := all_cut (a := 120) (n := 60) rc_136_120 rc_136_180x
theorem rc_136_60x : (K_136.drop 60).all (gCk lk_10 false (g_B 136)) = true := all_cut (a := 60) (n := 60) rc_136_60 rc_136_120x
theorem rc_136_0x : (K_136.drop 0).all (gCk lk_10 false (g_B 136)) = true := all_cut (a := 0) (n := 60) rc_136_0 rc_136_60x
theorem rc_136 : K_136.all (gCk lk_10 false (g_B 136)) = true := by
  have h := rc_136_0x
  rw [List.drop_zero] at h
  exact h
theorem mo_136 : gMok g_T g_F g_Y g_B g_R g_Cl g_E g_nests g_good 136 := ⟨by decide +kernel, rfl, g_rows lk_10 lf_10 rc_136⟩
theorem rc_226 : K_226.all (gCk lk_9 false (g_B 226)) = true := by decide +kernel
theorem mo_226 : gMok g_T g_F g_Y g_B g_R g_Cl g_E g_nests g_good 226 := ⟨by decide +kernel, rfl, g_rows lk_9 lf_9 rc_226⟩
theorem mob_0 (j : Nat) (h1 : 0 ≤ j) (h2 : j < 12) : gMok g_T g_F g_Y g_B g_R g_Cl g_E g_nests g_good j ∨ (g_T j).2.1 = [] := by
  rcases (show j = 0 ∨ j = 1 ∨ j = 2 ∨ j = 3 ∨ j = 4 ∨ j = 5 ∨ j = 6 ∨ j = 7 ∨ j = 8 ∨ j = 9 ∨ j = 10 ∨ j = 11 by omega) with rfl | rfl | rfl | rfl | rfl | rfl | rfl | rfl | rfl | rfl | rfl | rfl
  · exact Or.inl mo_0
  · exact Or.inl mo_1
  · exact Or.inl mo_2
  · exact Or.inl mo_3
  · exact Or.inl mo_4
  · exact Or.inl mo_5
  · exact Or.inl mo_6
  · exact Or.inl mo_7
  · exact Or.inl mo_8
  · exact Or.inl mo_9
  · exact Or.inl mo_10
  · exact Or.inl mo_11
theorem mob_12 (j : Nat) (h1 : 12 ≤ j) (h2 : j < 24) : gMok g_T g_F g_Y g_B g_R g_Cl g_E g_nests g_good j ∨ (g_T j).2.1 = [] := by
  rcases (show j = 12 ∨ j = 13 ∨ j = 14 ∨ j = 15 ∨ j = 16 ∨ j = 17 ∨ j = 18 ∨ j = 19 ∨ j = 20 ∨ j = 21 ∨ j = 22 ∨ j = 23 by omega) with rfl | rfl | rfl | rfl | rfl | rfl | rfl | rfl | rfl | rfl | rfl | rfl
  · exact Or.inl mo_12
  · exact Or.inl mo_13
  · exact Or.inr rfl
  · exact Or.inl mo_15
  · exact Or.inl mo_16
  · exact Or.inl mo_17
  · exact Or.inl mo_18
  · exact Or.inl mo_19
  · exact Or.inl mo_20
  · exact Or.inl mo_21
  · exact Or.inl mo_22
  · exact Or.inl mo_23
theorem mob_24 (j : Nat) (h1 : 24 ≤ j) (h2 : j < 36) : gMok g_T g_F g_Y g_B g_R g_Cl g_E g_nests g_good j ∨ (g_T j).2.1 = [] := by
  rcases (show j = 24 ∨ j = 25 ∨ j = 26 ∨ j = 27 ∨ j = 28 ∨ j = 29 ∨ j = 30 ∨ j = 31 ∨ j = 32 ∨ j = 33 ∨ j = 34 ∨ j = 35 by omega) with rfl | rfl | rfl | rfl | rfl | rfl | rfl | rfl | rfl | rfl | rfl | rfl
  · exact Or.inl mo_24
  · exact Or.inl mo_25
  · exact Or.inl mo_26
  · exact Or.inl mo_27
  · exact Or.inl mo_28
  · exact Or.inl mo_29
  · exact Or.inl mo_30
  · exact Or.inl mo_31
  · exact Or.inl mo_32
  · exact Or.inl mo_33
  · exact Or.inl mo_34
  · exact Or.inl mo_35
theorem mob_36 (j : Nat) (h1 : 36 ≤ j) (h2 : j < 48) : gMok g_T g_F g_Y g_B g_R g_Cl g_E g_nests g_good j ∨ (g_T j).2.1 = [] := by
  rcases (show j = 36 ∨ j = 37 ∨ j = 38 ∨ j = 39 ∨ j = 40 ∨ j = 41 ∨ j = 42 ∨ j = 43 ∨ j = 44 ∨ j = 45 ∨ j = 46 ∨ j = 47 by omega) with rfl | rfl | rfl | rfl | rfl | rfl | rfl | rfl | rfl | rfl | rfl | rfl
  · exact Or.inl mo_36
  · exact Or.inl mo_37
  · exact Or.inl mo_38
  · exact Or.inl mo_39
  · exact Or.inl mo_40
  · exact Or.inl mo_41
  · exact Or.inl mo_42
  · exact Or.inl mo_43
  · exact Or.inl mo_44
  · exact Or.inl mo_45
  · exact Or.inl mo_46
  · exact Or.inl mo_47
theorem mob_48 (j : Nat) (h1 : 48 ≤ j) (h2 : j < 60) : gMok g_T g_F g_Y g_B g_R g_Cl g_E g_nests g_good j ∨ (g_T j).2.1 = [] := by
  rcases (show j = 48 ∨ j = 49 ∨ j = 50 ∨ j = 51 ∨ j = 52 ∨ j = 53 ∨ j = 54 ∨ j = 55 ∨ j = 56 ∨ j = 57 ∨ j = 58 ∨ j = 59 by omega) with rfl | rfl | rfl | rfl | rfl | rfl | rfl | rfl | rfl | rfl | rfl | rfl
  · exact Or.inl mo_48
  · exact Or.inl mo_49
  · exact Or.inl mo_50
  · exact Or.inl mo_51
  · exact Or.inl mo_52
  · exact Or.inl mo_53
  · exact Or.inl mo_54
  · exact Or.inl mo_55
  · exact Or.inl mo_56
  · exact Or.inl mo_57
  · exact Or.inl mo_58
  · exact Or.inl mo_59
theorem mob_60 (j : Nat) (h1 : 60 ≤ j) (h2 : j < 72) : gMok g_T g_F g_Y g_B g_R g_Cl g_E g_nests g_good j ∨ (g_T j).2.1 = [] := by
  rcases (show j = 60 ∨ j = 61 ∨ j = 62 ∨ j = 63 ∨ j = 64 ∨ j = 65 ∨ j = 66 ∨ j = 67 ∨ j = 68 ∨ j = 69 ∨ j = 70 ∨ j = 71 by omega) with rfl | rfl | rfl | rfl | rfl | rfl | rfl | rfl | rfl | rfl | rfl | rfl
  · exact Or.inl mo_60
  · exact Or.inl mo_61
  · exact Or.inl mo_62
  · exact Or.inl mo_63
  · exact Or.inl mo_64
  · exact Or.inl mo_65
  · exact Or.inl mo_66
  · exact Or.inl mo_67
  · exact Or.inl mo_68
  · exact Or.inl mo_69
  · exact Or.inl mo_70
  · exact Or.inl mo_71
theorem mob_72 (j : Nat) (h1 : 72 ≤ j) (h2 : j < 84) : gMok g_T g_F g_Y g_B g_R g_Cl g_E g_nests g_good j ∨ (g_T j).2.1 = [] := by
  rcases (show j = 72 ∨ j = 73 ∨ j = 74 ∨ j = 75 ∨ j = 76 ∨ j = 77 ∨ j = 78 ∨ j = 79 ∨ j = 80 ∨ j = 81 ∨ j = 82 ∨ j = 83 by omega) with rfl | rfl | rfl | rfl | rfl | rfl | rfl | rfl | rfl | rfl | rfl | rfl
  · exact Or.inl mo_72
  · exact Or.inl mo_73
  · exact Or.inl mo_74
  · exact Or.inr rfl
  · exact Or.inl mo_76
  · exact Or.inl mo_77
  · exact Or.inl mo_78
  · exact Or.inl mo_79
  · exact Or.inr rfl
  · exact Or.inl mo_81
  · exact Or.inl mo_82
  · exact Or.inl mo_83
theorem mob_84 (j : Nat) (h1 : 84 ≤ j) (h2 : j < 96) : gMok g_T g_F g_Y g_B g_R g_Cl g_E g_nests g_good j ∨ (g_T j).2.1 = [] := by
  rcases (show j = 84 ∨ j = 85 ∨ j = 86 ∨ j = 87 ∨ j = 88 ∨ j = 89 ∨ j = 90 ∨ j = 91 ∨ j = 92 ∨ j = 93 ∨ j = 94 ∨ j = 95 by omega) with rfl | rfl | rfl | rfl | rfl | rfl | rfl | rfl | rfl | rfl | rfl | rfl
  · exact Or.inr rfl
  · exact Or.inl mo_85
  · exact Or.inl mo_86
  · exact Or.inl mo_87
  · exact Or.inl mo_88
  · exact Or.inl mo_89
  · exact Or.inl mo_90
  · exact Or.inl mo_91
  · exact Or.inl mo_92
  · exact Or.inl mo_93
  · exact Or.inl mo_94
  · exact Or.inl mo_95
theorem mob_96 (j : Nat) (h1 : 96 ≤ j) (h2 : j < 108) : gMok g_T g_F g_Y g_B g_R g_Cl g_E g_nests g_good j ∨ (g_T j).2.1 = [] := by
  rcases (show j = 96 ∨ j = 97 ∨ j = 98 ∨ j = 99 ∨ j = 100 ∨ j = 101 ∨ j = 102 ∨ j = 103 ∨ j = 104 ∨ j = 105 ∨ j = 106 ∨ j = 107 by omega) with rfl | rfl | rfl | rfl | rfl | rfl | rfl | rfl | rfl | rfl | rfl | rfl
  · exact Or.inl mo_96
  · exact Or.inl mo_97
  · exact Or.inl mo_98
  · exact Or.inl mo_99
  · exact Or.inl mo_100
  · exact Or.inl mo_101
  · exact Or.inl mo_102
  · exact Or.inl mo_103
  · exact Or.inl mo_104
  · exact Or.inl mo_105
  · exact Or.inl mo_106
  · exact Or.inl mo_107
theorem mob_108 (j : Nat) (h1 : 108 ≤ j) (h2 : j < 120) : gMok g_T g_F g_Y g_B g_R g_Cl g_E g_nests g_good j ∨ (g_T j).2.1 = [] := by
  rcases (show j = 108 ∨ j = 109 ∨ j = 110 ∨ j = 111 ∨ j = 112 ∨ j = 113 ∨ j = 114 ∨ j = 115 ∨ j = 116 ∨ j = 117 ∨ j = 118 ∨ j = 119 by omega) with rfl | rfl | rfl | rfl | rfl | rfl | rfl | rfl | rfl | rfl | rfl | rfl
  · exact Or.inl mo_108
  · exact Or.inl mo_109
  · exact Or.inl mo_110
  · exact Or.inl mo_111
  · exact Or.inl mo_112
  · exact Or.inl mo_113
  · exact Or.inl mo_114
  · exact Or.inl mo_115
  · exact Or.inl mo_116
  · exact Or.inl mo_117
  · exact Or.inl mo_118
  · exact Or.inl mo_119
theorem mob_120 (j : Nat) (h1 : 120 ≤ j) (h2 : j < 132) : gMok g_T g_F g_Y g_B g_R g_Cl g_E g_nests g_good j ∨ (g_T j).2.1 = [] := by
  rcases (show j = 120 ∨ j = 121 ∨ j = 122 ∨ j = 123 ∨ j = 124 ∨ j = 125 ∨ j = 126 ∨ j = 127 ∨ j = 128 ∨ j = 129 ∨ j = 130 ∨ j = 131 by omega) with rfl | rfl | rfl | rfl | rfl | rfl | rfl | rfl | rfl | rfl | rfl | rfl
  · exact Or.inl mo_120
  · exact Or.inl mo_121
  · exact Or.inl mo_122
  · exact Or.inl mo_123
  · exact Or.inl mo_124
  · exact Or.inl mo_125
  · exact Or.inl mo_126
  · exact Or.inl mo_127
  · exact Or.inl mo_128
  · exact Or.inl mo_129
  · exact Or.inl mo_130
  · exact Or.inl mo_131
theorem mob_132 (j : Nat) (h1 : 132 ≤ j) (h2 : j < 144) : gMok g_T g_F g_Y g_B g_R g_Cl g_E g_nests g_good j ∨ (g_T j).2.1 = [] := by
  rcases (show j = 132 ∨ j = 133 ∨ j = 134 ∨ j = 135 ∨ j = 136 ∨ j = 137 ∨ j = 138 ∨ j = 139 ∨ j = 140 ∨ j = 141 ∨ j = 142 ∨ j = 143 by omega) with rfl | rfl | rfl | rfl | rfl | rfl | rfl | rfl | rfl | rfl | rfl | rfl
  · exact Or.inl mo_132
  · exact Or.inl mo_133
  · exact Or.inl mo_134
  · exact Or.inl mo_135
  · exact Or.inl mo_136
  · exact Or.inr rfl
  · exact Or.inr rfl
  · exact Or.inr rfl
  · exact Or.inr rfl
  · exact Or.inr rfl
  · exact Or.inr rfl
  · exact Or.inr rfl
theorem mob_144 (j : Nat) (h1 : 144 ≤ j) (h2 : j < 156) : gMok g_T g_F g_Y g_B g_R g_Cl g_E g_nests g_good j ∨ (g_T j).2.1 = [] := by
  rcases (show j = 144 ∨ j = 145 ∨ j = 146 ∨ j = 147 ∨ j = 148 ∨ j = 149 ∨ j = 150 ∨ j = 151 ∨ j = 152 ∨ j = 153 ∨ j = 154 ∨ j = 155 by omega) with rfl | rfl | rfl | rfl | rfl | rfl | rfl | rfl | rfl | rfl | rfl | rfl
  · exact Or.inr rfl
  · exact Or.inr rfl
  · exact Or.inr rfl
  · exact Or.inr rfl
  · exact Or.inr rfl
  · exact Or.inr rfl
  · exact Or.inr rfl
  · exact Or.inr rfl
  · exact Or.inr rfl
  · exact Or.inr rfl
  · exact Or.inr rfl
  · exact Or.inr rfl
theorem mob_156 (j : Nat) (h1 : 156 ≤ j) (h2 : j < 168) : gMok g_T g_F g_Y g_B g_R g_Cl g_E g_nests g_good j ∨ (g_T j).2.1 = [] := by
  rcases (show j = 156 ∨ j = 157 ∨ j = 158 ∨ j = 159 ∨ j = 160 ∨ j = 161 ∨ j = 162 ∨ j = 163 ∨ j = 164 ∨ j = 165 ∨ j = 166 ∨ j = 167 by omega) with rfl | rfl | rfl | rfl | rfl | rfl | rfl | rfl | rfl | rfl | rfl | rfl
  · exact Or.inr rfl
  · exact Or.inr rfl
  · exact Or.inr rfl
  · exact Or.inr rfl
  · exact Or.inr rfl
  · exact Or.inr rfl
  · exact Or.inr rfl
  · exact Or.inr rfl
  · exact Or.inr rfl
  · exact Or.inr rfl
  · exact Or.inr rfl
  · exact Or.inr rfl
theorem mob_168 (j : Nat) (h1 : 168 ≤ j) (h2 : j < 180) : gMok g_T g_F g_Y g_B g_R g_Cl g_E g_nests g_good j ∨ (g_T j).2.1 = [] := by
  rcases (show j = 168 ∨ j = 169 ∨ j = 170 ∨ j = 171 ∨ j = 172 ∨ j = 173 ∨ j = 174 ∨ j = 175 ∨ j = 176 ∨ j = 177 ∨ j = 178 ∨ j = 179 by omega) with rfl | rfl | rfl | rfl | rfl | rfl | rfl | rfl | rfl | rfl | rfl | rfl
  · exact Or.inr rfl
  · exact Or.inr rfl
  · exact Or.inr rfl
  · exact Or.inr rfl
  · exact Or.inr rfl
  · exact Or.inr rfl
  · exact Or.inr rfl
  · exact Or.inr rfl
  · exact Or.inr rfl
  · exact Or.inr rfl
  · exact Or.inr rfl
  · exact Or.inr rfl
theorem mob_180 (j : Nat) (h1 : 180 ≤ j) (h2 : j < 192) : gMok g_T g_F g_Y g_B g_R g_Cl g_E g_nests g_good j ∨ (g_T j).2.1 = [] := by
  rcases (show j = 180 ∨ j = 181 ∨ j = 182 ∨ j = 183 ∨ j = 184 ∨ j = 185 ∨ j = 186 ∨ j = 187 ∨ j = 188 ∨ j = 189 ∨ j = 190 ∨ j = 191 by omega) with rfl | rfl | rfl | rfl | rfl | rfl | rfl | rfl | rfl | rfl | rfl | rfl
  · exact Or.inr rfl
  · exact Or.inr rfl
  · exact Or.inr rfl
  · exact Or.inr rfl
  · exact Or.inr rfl
  · exact Or.inr rfl
  · exact Or.inr rfl
  · exact Or.inr rfl
  · exact Or.inr rfl
  · exact Or.inr rfl
  · exact Or.inr rfl
  · exact Or.inr rfl
theorem mob_192 (j : Nat) (h1 : 192 ≤ j) (h2 : j < 204) : gMok g_T g_F g_Y g_B g_R g_Cl g_E g_nests g_good j ∨ (g_T j).2.1 = [] := by
  rcases (show j = 192 ∨ j = 193 ∨ j = 194 ∨ j = 195 ∨ j = 196 ∨ j = 197 ∨ j = 198 ∨ j = 199 ∨ j = 200 ∨ j = 201 ∨ j = 202 ∨ j = 203 by omega) with rfl | rfl | rfl | rfl | rfl | rfl | rfl | rfl | rfl | rfl | rfl | rfl
  · exact Or.inr rfl
  · exact Or.inr rfl
  · exact Or.inr rfl
  · exact Or.inr rfl
  · exact Or.inr rfl
  · exact Or.inr rfl
  · exact Or.inr rfl
  · exact Or.inr rfl
  · exact Or.inr rfl
  · exact Or.inr rfl
  · exact Or.inr rfl
  · exact Or.inr rfl
theorem mob_204 (j : Nat) (h1 : 204 ≤ j) (h2 : j < 216) : gMok g_T g_F g_Y g_B g_R g_Cl g_E g_nests g_good j ∨ (g_T j).2.1 = [] := by
  rcases (show j = 204 ∨ j = 205 ∨ j = 206 ∨ j = 207 ∨ j = 208 ∨ j = 209 ∨ j = 210 ∨ j = 211 ∨ j = 212 ∨ j = 213 ∨ j = 214 ∨ j = 215 by omega) with rfl | rfl | rfl | rfl | rfl | rfl | rfl | rfl | rfl | rfl | rfl | rfl
  · exact Or.inr rfl
  · exact Or.inr rfl
  · exact Or.inr rfl
  · exact Or.inr rfl
  · exact Or.inr rfl
  · exact Or.inr rfl
  · exact Or.inr rfl
  · exact Or.inr rfl
  · exact Or.inr rfl
  · exact Or.inr rfl
  · exact Or.inr rfl
  · exact Or.inr rfl
theorem mob_216 (j : Nat) (h1 : 216 ≤ j) (h2 : j < 227) : gMok g_T g_F g_Y g_B g_R g_Cl g_E g_nests g_good j ∨ (g_T j).2.1 = [] := by
  rcases (show j = 216 ∨ j = 217 ∨ j = 218 ∨ j = 219 ∨ j = 220 ∨ j = 221 ∨ j = 222 ∨ j = 223 ∨ j = 224 ∨ j = 225 ∨ j = 226 by omega) with rfl | rfl | rfl | rfl | rfl | rfl | rfl | rfl | rfl | rfl | rfl
  · exact Or.inr rfl
  · exact Or.inr rfl
  · exact Or.inr rfl
  · exact Or.inr rfl
  · exact Or.inr rfl
  · exact Or.inr rfl
  · exact Or.inr rfl
  · exact Or.inr rfl
  · exact Or.inr rfl
  · exact Or.inr rfl
  · exact Or.inl mo_226
theorem g_all (j : Nat) : gMok g_T g_F g_Y g_B g_R g_Cl g_E g_nests g_good j ∨ (g_T j).2.1 = [] := by
  by_cases h12 : j < 12
  · exact mob_0 j (by omega) h12
  by_cases h24 : j < 24
  · exact mob_12 j (by omega) h24
  by_cases h36 : j < 36
  · exact mob_24 j (by omega) h36
  by_cases h48 : j < 48
  · exact mob_36 j (by omega) h48
  by_cases h60 : j < 60
  · exact mob_48 j (by omega) h60
  by_cases h72 : j < 72
  · exact mob_60 j (by omega) h72
  by_cases h84 : j < 84
  · exact mob_72 j (by omega) h84
  by_cases h96 : j < 96
  · exact mob_84 j (by omega) h96
  by_cases h108 : j < 108
  · exact mob_96 j (by omega) h108
  by_cases h120 : j < 120
  · exact mob_108 j (by omega) h120
  by_cases h132 : j < 132
  · exact mob_120 j (by omega) h132
  by_cases h144 : j < 144
  · exact mob_132 j (by omega) h144
  by_cases h156 : j < 156
  · exact mob_144 j (by omega) h156
  by_cases h168 : j < 168
  · exact mob_156 j (by omega) h168
  by_cases h180 : j < 180
  · exact mob_168 j (by omega) h180
  by_cases h192 : j < 192
  · exact mob_180 j (by omega) h192
  by_cases h204 : j < 204
  · exact mob_192 j (by omega) h204
  by_cases h216 : j < 216
  · exact mob_204 j (by omega) h216
  by_cases h227 : j < 227
  · exact mob_216 j (by omega) h227
  · refine Or.inr ?_
    have h : g_tab[j]? = none := List.getElem?_eq_none (by show 227 ≤ j; omega)
    show (g_tab.getD j (0, [], 0, 9, 0, 0, false)).2.1 = []
    rw [List.getD_eq_getElem?_getD, h]; rfl
theorem g_mlt : ∀ j, j < 227 → (g_T j).2.2.1 ≤ 45 := by decide +kernel
theorem g_ml (j : Nat) : (g_T j).2.2.1 ≤ 45 := by
  by_cases h : j < 227
  · exact g_mlt j h
  · have h : g_tab[j]? = none := List.getElem?_eq_none (by show 227 ≤ j; omega)
    show (g_tab.getD j (0, [], 0, 9, 0, 0, false)).2.2.1 ≤ 45
    rw [List.getD_eq_getElem?_getD, h]; decide
theorem g_gw : ∀ w ∈ g_good, goodWord w = true := fun _ h => (List.mem_filter.mp h).2
theorem g_ar : ∀ w ∈ ([.arrayClass .int, .arrayClass .boolean, .arrayClass .char] : List Jvm.Cond), w ∈ g_good := by decide +kernel
theorem g_met (l : Launch) {D : va_G} {cA : Nat → ClassId} {A : Nat → Prop} {b : Nat} {NN : Int} {XX : Int → Int} : ∀ d, gCt l g_T g_Y (gWs g_T g_Y g_B g_R g_good) (gRm g_T d) D g_Cl cA g_E g_nests A b NN XX (gCall g_T g_F NN XX d) := g_contract g_ar g_gw g_ml g_all
end
section
theorem law_g (L : Nat) (hL : L ≤ 260) (X : Int → Int) (hX : ∀ i : Int, 0 ≤ i → i < L → gOk (X i)) : gG g_T g_F (gCall g_T g_F (L : Int) X 40) (L : Int) X (g_T 136) (fun v _ _ => v = some (gI 1)) 0 (gIn 15 [gN 1]) [] [] (fun _ _ => 0) 600000 7302250 := sorry
/-! THE CLAIM OUT OF ONE WALK OF THE LAW'S BODY. Your part is whole_start (and what it stands on); all else here is the same for every law, but numbers. -/
def R_law : String := "LayeredDrawingLaw"
def lw_P (b : Addr) (xs : List Int32) (args : Array Value) (s : State) : Prop := args = #[.ref b] ∧ s.IntsAt b xs ∧ xs.length ≤ 260 ∧ (Jvm.Cond.and given_1 narrow_1).before args s = true
def lw_Q (_ : Array Value) (s : State) (o : Outcome) (t : State) : Prop := o = .returned (some (.int 1)) ∧ Framed s o t [] 600000 7302250
def lw_Z (below : List Frame) (a : Array Value) (s : State) : State → Prop := fun t => ∃ o, t.status = .running ∧ Ended t below o ∧ lw_Q a s o t
/-- the law's own end, with 1 on the stack, nothing written that was there before, its room as the claim has it -/
theorem lw_ret {p : Program} {l : Launch} {e : Env} {s : State} {m : MethodId} {below : List Frame} {meth : Method} {c : Code} {b : Nat} (hx : p.tables.exec = Jvm.exec) (hb : c.code = code) (hr : meth.sig.returnType = ret) (hlocks : meth.locks = false) {pc : Nat} {H : Heap} {ls : Array Slot} (hdg : decode code pc = .ok (.ireturn, 1)) : W p l e room_1 s m #[Value.ref b] below meth c H [] 600000 7302250 (lw_Z below #[Value.ref b] s) (F0 m pc ls [.int 1]) := by
  intro T hT X
  obtain ⟨fs, hret, hrun, hended, hW, hframe⟩ := X.leave (v := some (.int 1)) (hlocks := hlocks) (fun h => by rw [hr] at h; cases h)
  have hmeth' : T.vm.method? m = some meth := X.method'
  refine ⟨T.setFrames fs, ?_, .returned (some (.int 1)), hrun, hended, rfl, ⟨_, rfl⟩, hW, hframe⟩
  jvm_step X.here [X.here.top, hx, hb, hdg, hmeth', hr, ret, narrow_b1]
  (try refine ⟨rfl, ?_⟩); (try refine ⟨rfl, ?_⟩)
  first | (intro acts; rw [hret _ acts rfl rfl rfl]) | rw [hret _ _ rfl rfl rfl]
  exact Steps.refl _
/-- what holds at the law's entry: the machine, the code, the tables' words (any of lw_tbl by 'hts w (by decide +kernel)'), the script of L ints xs at the cell b, what the Statement gives of the start (any of its parts by flat_of_before) -/
def lw_At (p : Program) (s : State) (m : MethodId) (meth : Method) (c : Code) (b L : Nat) (xs : Nat → Int32) : Prop :=
  p.tables.exec = Jvm.exec ∧ c.code = code ∧ meth.sig.returnType = ret ∧ c.maxLocals = 15 ∧ s.vm.findClass R_law = some m.cls ∧ (∀ w ∈ lw_tbl, w.before #[Value.ref b] s = true) ∧ va_X b L xs s s.heap ∧ b < s.heap.size ∧ meth.locks = false ∧ (Jvm.Cond.and given_1 narrow_1).before #[Value.ref b] s = true
-- ===== YOUR PART BEGINS =====
theorem g_arrs {args : Array Value} {s : State} (hts : ∀ w ∈ g_good, w.before args s = true) (hov : (Jvm.Cond.arrayOver (.object g_E)).before args s = true) : ∃ cA : Nat → ClassId, ∀ (k : Nat) (q : ClassId × FieldType), (gTys cA g_E)[k]? = some q → ArrOfT s q.1 q.2 ∧ va_RA s q.1 q.2 := by
  have h1 := hts (.arrayClass .int) (g_ar _ (by simp))
  have h2 := hts (.arrayClass .boolean) (g_ar _ (by simp))
  have h3 := hts (.arrayClass .char) (g_ar _ (by simp))
  obtain ⟨c1, k1, p1, a1, b1, d1⟩ := Cond.arrayClass_spec h1
  obtain ⟨c2, k2, p2, a2, b2, d2⟩ := Cond.arrayClass_spec h2
  obtain ⟨c3, k3, p3, a3, b3, d3⟩ := Cond.arrayClass_spec h3
  obtain ⟨p4, c4, k4, e4, -, b4, d4, a4⟩ := Cond.arrayOver_spec hov
  refine ⟨fun k => match k with
    | 0 => c1
    | 1 => c2
    | 2 => c3
    | _ => c4, fun k q hq => ?_⟩
  match k, hq with
  | 0, hq =>
    cases hq
    exact ⟨fun n z => ⟨fun k h => (by cases h), k1, b1, p1, d1⟩, a1⟩
  | 1, hq =>
    cases hq
    exact ⟨fun n z => ⟨fun k h => (by cases h), k2, b2, p2, d2⟩, a2⟩
  | 2, hq =>
    cases hq
    exact ⟨fun n z => ⟨fun k h => (by cases h), k3, b3, p3, d3⟩, a3⟩
  | 3, hq =>
    cases hq
    exact ⟨fun n z => ⟨fun k h => (by cases h), k4, b4, p4, d4⟩, k4, p4, b4, d4, e4, a4⟩
  | k + 4, hq => simp [gTys] at hq
theorem g_nest {args : Array Value} {s : State} (hts : ∀ w ∈ lw_tbl, w.before args s = true) : ∀ q ∈ g_nests, va_Nw (.methodLinkNest q.1 q.2.1 q.2.2.1 q.2.2.2) s := by
  have h : ∀ q ∈ g_nests, Jvm.Cond.methodLinkNest q.1 q.2.1 q.2.2.1 q.2.2.2 ∈ lw_tbl := by decide +kernel
  exact fun q hq => va_Nw.of rfl (hts _ (h q hq))
theorem g_cls {args : Array Value} {s : State} (hts : ∀ w ∈ g_good, w.before args s = true) : ∃ D : va_G, ∀ (k : Nat) (q : vw_C), g_Cl[k]? = some q → u_Kn s q.1 q.2.1 q.2.2 (D.1 k) (D.2 k) := by
  obtain ⟨c0, i0, h0⟩ := u_known (C := cn_0) (T := ct_0) (N := 5) (n := 5) hts ch_0 (hts (.instantiable cn_0 5) (by decide +kernel))
  obtain ⟨c1, i1, h1⟩ := u_known (C := cn_1) (T := ct_1) (N := 9) (n := 9) hts ch_1 (hts (.instantiable cn_1 9) (by decide +kernel))
  obtain ⟨c2, i2, h2⟩ := u_known (C := cn_2) (T := ct_2) (N := 11) (n := 11) hts ch_2 (hts (.instantiable cn_2 11) (by decide +kernel))
  obtain ⟨c3, i3, h3⟩ := u_known (C := cn_3) (T := ct_3) (N := 16) (n := 16) hts ch_3 (hts (.instantiable cn_3 16) (by decide +kernel))
  obtain ⟨c4, i4, h4⟩ := u_known (C := cn_4) (T := ct_4) (N := 5) (n := 5) hts ch_4 (hts (.instantiable cn_4 5) (by decide +kernel))
  obtain ⟨c5, i5, h5⟩ := u_known (C := cn_5) (T := ct_5) (N := 9) (n := 9) hts ch_5 (hts (.instantiable cn_5 9) (by decide +kernel))
  obtain ⟨c6, i6, h6⟩ := u_known (C := cn_6) (T := ct_6) (N := 7) (n := 7) hts ch_6 (hts (.instantiable cn_6 7) (by decide +kernel))
  refine ⟨(fun k => match k with
    | 0 => c0
    | 1 => c1
    | 2 => c2
    | 3 => c3
    | 4 => c4
    | 5 => c5
    | _ => c6, fun k => match k with
    | 0 => i0
    | 1 => i1
    | 2 => i2
    | 3 => i3
    | 4 => i4
    | 5 => i5
    | _ => i6), fun k q hq => ?_⟩
  match k, hq with
  | 0, hq => cases hq; exact h0
  | 1, hq => cases hq; exact h1
  | 2, hq => cases hq; exact h2
  | 3, hq => cases hq; exact h3
  | 4, hq => cases hq; exact h4
  | 5, hq => cases hq; exact h5
  | 6, hq => cases hq; exact h6
  | k + 7, hq => simp [g_Cl] at hq
/-- YOUR PART: from the entry, for every script of at most 260 ints, the law comes to its end with true ('hflags': the launch's flags, for a law that throws: no stack traces) -/
theorem whole_start {p : Program} {e : Env} {s : State} {m : MethodId} {below : List Frame} {meth : Method} {c : Code} (l : Launch) (hflags : l.flags = flags0) {b L : Nat} {xs : Nat → Int32} (hL : L ≤ 260) (C0 : lw_At p s m meth c b L xs) : W p l e room_1 s m #[Value.ref b] below meth c s.heap [] 0 0 (lw_Z below #[Value.ref b] s) (entryFrame m ([Value.ref b] : List Value).toArray 15) := by
  obtain ⟨hx, hb, hr, hml, hown, hts, hX, hbl, hlocks, hgv⟩ := C0
  have hgd : ∀ w ∈ g_good, w.before #[Value.ref b] s = true := fun w hw => hts w (List.mem_filter.mp hw).1
  have hov : (Jvm.Cond.arrayOver (.object g_E)).before #[Value.ref b] s = true := hts _ (by decide +kernel)
  obtain ⟨D, hD0⟩ := g_cls hgd
  obtain ⟨cA, hcA⟩ := g_arrs hgd hov
  have hK : gKx D g_Cl cA g_E g_nests s := ⟨⟨hD0, hcA⟩, g_nest hts, va_AO.of hov⟩
  rw [lg_entry_eq]
  have hS : va_S (fun q : Nat => s.heap.size ≤ q) s.heap s.heap [] := va_S.rf
  have hP : va_P D g_Cl [] s.heap := fun k q h => by simp at h
  have hD : va_D (fun q : Nat => s.heap.size ≤ q) [] := ⟨fun i j p q h => by simp at h, fun k q h => by simp at h⟩
  have hWr : gWr cA [] [] b [] (fun _ _ => 0) [] := ⟨rfl, rfl, fun k c h => by simp at h, fun k a h => h⟩
  have hLr := gLr.entry (ad := []) (b := b) (as := [gN 1]) (st := [.ref b]) ⟨rfl, trivial⟩ (n := 15) (by decide)
  refine g_sound (Q := fun v _ _ => v = some (gI 1)) (M := g_T 136) (T := g_T) (F := g_F) (Yf := g_Y) (Bf := g_B) (Rf := g_R) (good := g_good) (rm := gRm g_T 40) (a0 := []) (MC := 600000) (MS := 7302250) (ini := false) (NN := (L : Int)) (XX := fun i => (xs i.toNat).toInt) hx hb hgd hown hK (fun _ h => h) (Nat.le_refl _) (Nat.le_refl _) (Nat.le_of_ble_eq_true rfl) (Nat.le_of_ble_eq_true rfl) g_ar (fun w hw => ⟨hw, g_gw w hw⟩) (fun j => ⟨rfl, rfl, Nat.le_of_ble_eq_true rfl, ?_⟩) (g_met l 40) mo_136.2.2 (fun h => by cases h) ⟨L, xs, hX, hbl, Nat.not_le.mpr hbl, rfl, by omega, fun j hj => ?_⟩ ?_ 0 (gIn 15 [gN 1]) [] [] (fun _ _ => 0) 600000 7302250 (law_g L hL (fun i => (xs i.toNat).toInt) (fun i _ _ => g_rng _)) [] _ [] [] s.heap [] 0 0 hml hLr trivial hWr hP hD hS (Nat.le_of_ble_eq_true rfl) (Nat.le_of_ble_eq_true rfl)
  · have h9 := g_ml j
    show 8 + ((g_T j).2.2.1 + 11) + (64 * 40 + 100) ≤ 84000
    omega
  · show xs j = Int32.ofInt ((xs ((j : Int).toNat)).toInt) ∧ _
    rw [Int32.ofInt_toInt]
    exact ⟨rfl, g_rng _⟩
  · intro i v w sh μ ad ls ws H locs cells slots pc hdg hrt hQ hvo hW' hP' hD' hS' hc1 hc2
    subst hQ
    refine W.widen hc1 hc2 ?_
    refine va_forget hS'.2.2 ?_
    cases w with
    | none => exact hvo.elim
    | some w =>
      obtain ⟨hw, -⟩ : w = .int (Int32.ofInt 1) ∧ gOk 1 := hvo
      subst hw
      cases i with
      | ireturn => exact lw_ret hx hb hr hlocks hdg
      | areturn => exact absurd (show gTr (gI 1) = true from hrt.1) (by decide)
      | _ => exact False.elim hrt
-- ===== YOUR PART ENDS =====
set_option maxHeartbeats 4000000 in
theorem lw_walk (l : Launch) (hflags : l.flags = flags0) (b : Addr) (xs : List Int32) : MetFree l x (headSpec (Jvm.Cond.code x code maxLocals ret :: tables_1) room_1) (lw_P b xs) (fun _ _ _ _ _ => True) lw_Q := by
  refine MetFree.of_bodyS (code := code) (maxLocals := maxLocals) (ret := ret) (by decide) ?_ ?_
  · intro args s m h hn
    obtain ⟨meth, c, h1, h2, h3, h4, h5, h6, -, -⟩ := Cond.code_spec hn (atoms_spec (ws := Jvm.Cond.code x code maxLocals ret :: tables_1) h _ List.mem_cons_self)
    exact ⟨meth, c, h1, h2, h3, h4, h5, h6⟩
  · intro p e s m args below meth c s₁ B hml0 hP _
    obtain ⟨rfl, hx, hbd, hgv⟩ := hP
    obtain ⟨scr, harrAt, hlist, hof, hsmall⟩ := hx
    obtain ⟨hcb, hkn, -, -⟩ := State.arrayAt?_spec harrAt
    have hown : s.vm.findClass R_law = some m.cls := findClass_of_methodNamed B.named
    have hts0 : ∀ c ∈ (Jvm.Cond.code x code maxLocals ret :: tables_1), c.before #[Value.ref b] s = true := atoms_spec (ws := Jvm.Cond.code x code maxLocals ret :: tables_1) B.pre
    have hts : ∀ w ∈ lw_tbl, w.before #[Value.ref b] s = true := k2_hts_sels lw_privs (fun w hw => hts0 w (List.mem_cons_of_mem _ hw)) lw_privs_ok
    have hml : c.maxLocals = 15 := B.maxLocals_eq (hts0 _ List.mem_cons_self)
    have X₀ : Stand p l e room_1 s m #[Value.ref b] below meth c s₁ [] 0 0 := Stand.of_body B
    have hh0 : s₁.heap = s.heap := by rw [B.state]; rfl
    have hsz : scr.slots.size = xs.length := by rw [← Array.length_toList, hlist, List.length_map]
    have hval : ∀ j : Nat, j < xs.length → scr.slots[j]? = some (.int (xs.getD j 0)) := fun j hj => by
      rw [← Array.getElem?_toList, hlist]
      simp [hj]
    have hbl : b < s.heap.size := (Array.getElem?_eq_some_iff.mp hcb).1
    have hX : va_X b xs.length (fun j => xs.getD j 0) s s.heap := ⟨scr, hcb, hof, hkn, hsz, hval⟩
    have K : W p l e room_1 s m #[Value.ref b] below meth c s₁.heap [] 0 0 (lw_Z below #[Value.ref b] s) (entryFrame m ([Value.ref b] : List Value).toArray 15) := by
      rw [hh0]
      exact whole_start l hflags hbd ⟨B.exec, B.bytes, B.returns, hml, hown, hts, hX, hbl, B.notSynchronized, hgv⟩
    obtain ⟨t, a1, o, b1, b2, b3⟩ := K s₁ rfl X₀
    exact ⟨t, o, a1, b1, b2, b3⟩
theorem lw_pre_spec {args : Array Value} {s : State} (h : (Jvm.Cond.and given_1 narrow_1).before args s = true) (hr : rest_1_c.before args s = true) : ∃ (b : Addr) (xs : List Int32), lw_P b xs args s := by
  have hs := flat_of_before _ h
  have hq := flat_of_before _ hr
  have hc : (Cond.count 1).before args s = true := hs _ (by decide +kernel)
  have harr : (Cond.arrayOf (.arg 0) .int).before args s = true := hs _ (by decide +kernel)
  have hle : (Cond.le (.length (.arg 0)) (.int 260)).before args s = true := hs _ (by decide +kernel)
  have hlen : (Cond.isInt (.length (.arg 0))).before args s = true := hq _ (by decide +kernel)
  have hall : (Cond.all (.arg 0) (.isInt (.elem (.arg 0) (.index 0)))).before args s = true := hq _ (by decide +kernel)
  obtain ⟨b, xs, hb, hx⟩ := State.ints_of_pre rfl harr hlen hall
  have hsm : xs.length < 2 ^ 31 := hx.choose_spec.2.2.2
  have hev : (Term.length (.arg 0)).eval args s none [] s = some (.int xs.length.toInt32) := hx.length_eval hb
  have hv := Cond.le_ints hev (show (Term.int 260).eval args s none [] s = some (.int 260) from rfl)
  have hd : xs.length.toInt32 ≤ 260 := by
    simpa [Cond.before, Cond.holds, hv] using hle
  have hN : xs.length ≤ 260 := (Int32.ofNat_le_ofNat hsm (by decide)).mp (show Int32.ofNat xs.length ≤ Int32.ofNat 260 from hd)
  exact ⟨b, xs, Cond.one_arg hc (show args[0]? = some (.ref b) from hb), hx, hN, h⟩
theorem lw_comes (l : Launch) (hflags : l.flags = flags0) : Comes l x (Jvm.Cond.code x code maxLocals ret :: tables_1) room_1 (fun tb e args s => Calls_1 tb e args s ∧ rest_1 tb e args s ∧ Pre_1 tb e args s)
    (fun _ _ args s o t => lw_Q args s o t) := by
  intro p e ha hc hk s m args below hf hfit hheap happ hpre
  obtain ⟨b, xs, hP⟩ := lw_pre_spec hpre.2.2 hpre.2.1
  obtain ⟨k, o, h1, h2, h3, hQ⟩ := lw_walk l hflags b xs p e ha hc hk s m args below hf ((Spec.applies_iff_loose hf).mp happ).1 hP trivial
  exact ⟨k, o, h1, h2, h3, hQ⟩
theorem lw_frame {s t : State} {o : Outcome} {args : Array Value} (h : Framed s o t [] 600000 7302250) :
    Framed s o t (fieldLocs frame_1_writes args s ++ arrayLocs frame_1_arrays args s ++ staticLocs frame_1_statics s) 600000 7302250 := h
theorem lw_limb (L : Cond) (hL : ∀ (args : Array Value) (s t : State), L.after args s (.returned (some (.int 1))) t = true) :
    ArmFor flags0 classFile x code maxLocals ret World_1 tables_1 room_1 Calls_1 rest_1 Pre_1
      (fun tb e a s o t => postC L tb e a s o t ∧ Framed s o t (fieldLocs frame_1_writes a s ++ arrayLocs frame_1_arrays a s ++ staticLocs frame_1_statics s) 600000 7302250) := by
  intro l hflags _ _ p e ha hc hk s m args below hf hfit hheap happ hpre
  obtain ⟨k, o, h1, h2, h3, rfl, hF⟩ := lw_comes l hflags p e ha hc hk s m args below hf hfit hheap happ hpre
  exact ⟨k, _, h1, h2, h3, hL args s _, lw_frame hF⟩
theorem i_vc : Claimed_1_1 ∧ Claimed_1_2 := ⟨lw_limb limb_1_1 (fun args s t => by simp [limb_1_1, Cond.after, Cond.holds, Cond.value]), lw_limb limb_1_2 (fun args s t => Cond.after_iff.mpr (by
  first | (rw [show limb_1_2 = Cond.eq .result (.int 1) from rfl, Cond.eq_ints (x := 1) (y := 1) rfl rfl]; simp; done) | (simp [limb_1_2, Cond.value, Term.eval]; done)))⟩
end
