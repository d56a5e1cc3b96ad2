/-! ===== A SMALL MACHINE: whole numbers, cells by their numbers, one step's weakest precondition over the library's own instructions ===== -/
abbrev GV : Type := Int ⊕ (Nat ⊕ (Int ⊕ Nat))
/-- an int -/
abbrev gI (n : Int) : GV := .inl n
/-- a cell's number -/
abbrev gR (k : Nat) : GV := .inr (.inl k)
/-- a long -/
abbrev gL (n : Int) : GV := .inr (.inr (.inl n))
/-- 0: null; 1: the script; else: nothing -/
abbrev gN (k : Nat) : GV := .inr (.inr (.inr k))
abbrev gOk (n : Int) : Prop := -2147483648 ≤ n ∧ n < 2147483648
/-- a cell's shape: its kind (below 100: an object of that number; 100 int, 101 boolean, 102 char, 103 objects), how many slots, the slots that hold no numbers -/
abbrev GC : Type := Nat × Nat × List (Option GV)
abbrev SH : Type := List GC
abbrev MU : Type := Nat → Int → Int
def gW (μ : MU) (a : Nat) (i v : Int) : MU := fun b => if b = a then (fun j => if j = i then v else μ a j) else μ b
def gZ (μ : MU) (a : Nat) : MU := fun b => if b = a then (fun _ => 0) else μ b
def gCp (μ : MU) (a : Nat) (sp : Int) (b : Nat) (dp n : Int) : MU := fun c => if c = b then (fun j => if dp ≤ j ∧ j < dp + n then μ a (sp + (j - dp)) else μ b j) else μ c
/-- a row of code: place, instruction, two numbers that the tables give for it -/
abbrev GE : Type := Nat × Instr × Nat × Int
def gAt : List GE → Nat → Option (Instr × Nat × Int)
  | [], _ => none
  | e :: t, pc => match Nat.beq e.1 pc with
    | true => some e.2
    | false => gAt t pc
/-- a method: its owner's number, its code, its locals, what it answers (0 nothing, 1 int, 2 boolean, 3 long, 4 a reference), the cells and slots that it makes, whether it reads the script -/
abbrev GM : Type := Nat × List GE × Nat × Nat × Nat × Nat × Bool
abbrev GQ : Type := Option GV → SH → MU → Prop
abbrev GP : Type := Nat → List GV → List GV → SH → MU → Nat → Nat → Prop
abbrev GCall : Type := Nat → List GV → SH → MU → GQ → Prop
def gIs (b : Bool) (A : Prop) : Prop := match b with
  | true => A
  | false => False
def gLd (t : Nat) (o : Option GV) (k : GV → Prop) : Prop := match t, o with
  | 0, some (.inl a) => k (gI a)
  | 1, some (.inr (.inl a)) => k (gR a)
  | 1, some (.inr (.inr (.inr 0))) => k (gN 0)
  | 1, some (.inr (.inr (.inr 1))) => k (gN 1)
  | 2, some (.inr (.inr (.inl a))) => k (gL a)
  | _, _ => False
/-- a reference, null or the script -/
def gTr : GV → Bool
  | .inr (.inl _) => true
  | .inr (.inr (.inr k)) => Nat.blt k 2
  | _ => false
/-- one slot wide -/
def gC1 : GV → Bool
  | .inr (.inr (.inl _)) => false
  | .inr (.inr (.inr k)) => Nat.blt k 2
  | _ => true
def gNoL (L : List GV) : Nat → Bool
  | 0 => true
  | j + 1 => match L[j]? with
    | some (.inr (.inr (.inl _))) => false
    | _ => true
def gSt (L : List GV) (i : Nat) (v : GV) (k : List GV → Prop) : Prop := gIs (Nat.blt i L.length && gNoL L i) (k (L.set i v))
def gSt2 (L : List GV) (i : Nat) (v : GV) (k : List GV → Prop) : Prop := gIs (Nat.blt (i + 1) L.length && gNoL L i) (k ((L.set i v).set (i + 1) (gN 2)))
def g1 (S : List GV) (k : Int → List GV → Prop) : Prop := match S with
  | .inl a :: S' => k a S'
  | _ => False
def g2 (S : List GV) (k : Int → Int → List GV → Prop) : Prop := match S with
  | .inl b :: .inl a :: S' => k a b S'
  | _ => False
def gLl (S : List GV) (k : Int → Int → List GV → Prop) : Prop := match S with
  | .inr (.inr (.inl b)) :: .inr (.inr (.inl a)) :: S' => k a b S'
  | _ => False
def gRf (S : List GV) (k : Nat → List GV → Prop) : Prop := match S with
  | .inr (.inl a) :: S' => k a S'
  | _ => False
def gCel (sh : SH) (a : Nat) (k : GC → Prop) : Prop := match sh[a]? with
  | some c => k c
  | none => False
abbrev gIf (c : ClassFile.Cond) (a b : Int) : Prop := match c with
  | .eq => a = b
  | .ne => a ≠ b
  | .lt => a < b
  | .ge => b ≤ a
  | .gt => b < a
  | .le => a ≤ b
def gBr (p A B : Prop) : Prop := (p → A) ∧ (¬ p → B)
def gSw (a : Int) : Int → List Int → (Int → Prop) → Prop
  | _, [], _ => True
  | j, o :: t, k => (a = j → k o) ∧ gSw a (j + 1) t k
def gSel (i : Int) : Int → List (Option GV) → (GV → Prop) → Prop
  | _, [], _ => True
  | j, o :: t, k => (i = j → match o with
    | some v => k v
    | none => False) ∧ gSel i (j + 1) t k
def gDiv (a b : Int) : Int := (Int32.ofInt a / Int32.ofInt b).toInt
def gRem (a b : Int) : Int := (Int32.ofInt a - Int32.ofInt a / Int32.ofInt b * Int32.ofInt b).toInt
def gAnd (a b : Int) : Int := (Int32.ofInt a &&& Int32.ofInt b).toInt
def gOr (a b : Int) : Int := (Int32.ofInt a ||| Int32.ofInt b).toInt
def gShl (a b : Int) : Int := (Int32.ofInt a <<< (Int32.ofInt b &&& 31)).toInt
def gShr (a b : Int) : Int := (Int32.ofInt a >>> (Int32.ofInt b &&& 31)).toInt
def gAbs (a : Int) : Int := if 0 ≤ a then a else -a
def gWt : List GV → Nat
  | [] => 0
  | .inr (.inr (.inl _)) :: t => 2 + gWt t
  | _ :: t => 1 + gWt t
def gKind : ArrayType → Nat
  | .int => 100
  | .boolean => 101
  | .char => 102
  | _ => 0
def gIni : List Nat → List (Option GV)
  | [] => []
  | k :: t => (if k < 2 then none else some (gN 0)) :: gIni t
/-- a call of the method x with n arguments -/
def gInv (T : Nat → GM) (call : GCall) (P : GP) (pc : Nat) (L S : List GV) (sh : SH) (μ : MU) (mc ms x n : Nat) : Prop :=
  gIs (Nat.ble n S.length && Nat.ble (gWt (S.drop n)) 8 && Nat.ble (T x).2.2.2.2.1 mc && Nat.ble (T x).2.2.2.2.2.1 ms)
  (call x (S.take n).reverse sh μ (fun r sh' μ' => P (pc + 3) L (r.toList ++ S.drop n) sh' μ' (mc - (T x).2.2.2.2.1) (ms - (T x).2.2.2.2.2.1)))
def gCopy (P : GP) (pc : Nat) (L S : List GV) (sh : SH) (μ : MU) (mc ms : Nat) : Prop := match S with
  | .inl n :: .inl dp :: .inr (.inl b) :: .inl sp :: .inr (.inl a) :: S' => gCel sh a fun ca => gCel sh b fun cb => gIs (Nat.beq ca.1 100 && Nat.beq cb.1 100 && Nat.ble (gWt S') 8) ((0 ≤ sp ∧ 0 ≤ dp ∧ 0 ≤ n ∧ sp + n ≤ ca.2.1 ∧ dp + n ≤ cb.2.1) ∧ P (pc + 3) L S' sh (gCp μ a sp b dp n) mc ms)
  | _ => False
def gPut (F : Nat → List Nat) (P : GP) (pc : Nat) (L S : List GV) (sh : SH) (μ : MU) (mc ms x : Nat) (y : Int) : Prop := match S with
  | .inl n :: .inr (.inl a) :: S' => gCel sh a fun c => gIs (Nat.beq c.1 x) (match c.2.2[y.toNat]?, (F x)[y.toNat]? with
    | some none, some 0 => P (pc + 3) L S' sh (gW μ a y n) mc ms
    | some none, some 1 => (n = 0 ∨ n = 1) ∧ P (pc + 3) L S' sh (gW μ a y n) mc ms
    | _, _ => False)
  | .inr (.inl r) :: .inr (.inl a) :: S' => gCel sh a fun c => gIs (Nat.beq c.1 x) (match c.2.2[y.toNat]?, (F x)[y.toNat]? with
    | some (some _), some 2 => P (pc + 3) L S' (sh.set a (c.1, c.2.1, c.2.2.set y.toNat (some (gR r)))) μ mc ms
    | _, _ => False)
  | _ => False
def gGet (P : GP) (pc : Nat) (L S : List GV) (sh : SH) (μ : MU) (mc ms x : Nat) (y : Int) : Prop := gRf S fun a S' => gCel sh a fun c => gIs (Nat.beq c.1 x) (match c.2.2[y.toNat]? with
    | some none => P (pc + 3) L (gI (μ a y) :: S') sh μ mc ms
    | some (some v) => P (pc + 3) L (v :: S') sh μ mc ms
    | none => False)
def gAld (kind : Nat) (N : Int) (X : Int → Int) (u : Bool) (P : GP) (pc : Nat) (L S : List GV) (sh : SH) (μ : MU) (mc ms : Nat) : Prop := match S with
  | .inl i :: .inr (.inl a) :: S' => gCel sh a fun c => gIs (Nat.beq c.1 kind) ((0 ≤ i ∧ i < c.2.1) ∧ P (pc + 1) L (gI (μ a i) :: S') sh μ mc ms)
  | .inl i :: .inr (.inr (.inr 1)) :: S' => gIs (u && Nat.beq kind 100) ((0 ≤ i ∧ i < N) ∧ P (pc + 1) L (gI (X i) :: S') sh μ mc ms)
  | _ => False
def gAst (kind : Nat) (P : GP) (pc : Nat) (L S : List GV) (sh : SH) (μ : MU) (mc ms : Nat) : Prop := match S with
  | .inl v :: .inl i :: .inr (.inl a) :: S' => gCel sh a fun c => gIs (Nat.beq c.1 kind) ((0 ≤ i ∧ i < c.2.1) ∧ (match kind with
    | 100 => P (pc + 1) L S' sh (gW μ a i v) mc ms
    | 101 => (v = 0 ∨ v = 1) ∧ P (pc + 1) L S' sh (gW μ a i v) mc ms
    | 102 => (0 ≤ v ∧ v < 65536) ∧ P (pc + 1) L S' sh (gW μ a i v) mc ms
    | _ => False))
  | _ => False
def gStI (T : Nat → GM) (F : Nat → List Nat) (call : GCall) (N : Int) (X : Int → Int) (M : GM) (Q : GQ) (P : GP) (pc : Nat) (L S : List GV) (sh : SH) (μ : MU) (mc ms : Nat) (i : Instr) (x : Nat) (y : Int) : Prop := match i with
  | .aload_n k => gLd 1 L[(k : Nat)]? fun v => P (pc + 1) L (v :: S) sh μ mc ms
  | .aload k => gLd 1 L[k]? fun v => P (pc + 2) L (v :: S) sh μ mc ms
  | .iload_n k => gLd 0 L[(k : Nat)]? fun v => P (pc + 1) L (v :: S) sh μ mc ms
  | .iload k => gLd 0 L[k]? fun v => P (pc + 2) L (v :: S) sh μ mc ms
  | .lload_n k => gLd 2 L[(k : Nat)]? fun v => P (pc + 1) L (v :: S) sh μ mc ms
  | .lload k => gLd 2 L[k]? fun v => P (pc + 2) L (v :: S) sh μ mc ms
  | .istore_n k => g1 S fun a S' => gSt L k (gI a) fun L' => P (pc + 1) L' S' sh μ mc ms
  | .istore k => g1 S fun a S' => gSt L k (gI a) fun L' => P (pc + 2) L' S' sh μ mc ms
  | .astore_n k => (match S with
    | v :: S' => gIs (gTr v) (gSt L k v fun L' => P (pc + 1) L' S' sh μ mc ms)
    | [] => False)
  | .lstore_n k => (match S with
    | .inr (.inr (.inl a)) :: S' => gSt2 L k (gL a) fun L' => P (pc + 1) L' S' sh μ mc ms
    | _ => False)
  | .lstore k => (match S with
    | .inr (.inr (.inl a)) :: S' => gSt2 L k (gL a) fun L' => P (pc + 2) L' S' sh μ mc ms
    | _ => False)
  | .iinc k n => (match L[k]? with
    | some (.inl a) => gIs (decide (-2147483648 ≤ n) && decide (n < 2147483648)) (gOk (a + n) ∧ gSt L k (gI (a + n)) fun L' => P (pc + 3) L' S sh μ mc ms)
    | _ => False)
  | .iconst n => gIs (decide (-2147483648 ≤ n) && decide (n < 2147483648)) (P (pc + 1) L (gI n :: S) sh μ mc ms)
  | .bipush n => gIs (decide (-128 ≤ n) && decide (n < 128)) (P (pc + 2) L (gI n :: S) sh μ mc ms)
  | .sipush n => gIs (decide (-32768 ≤ n) && decide (n < 32768)) (P (pc + 3) L (gI n :: S) sh μ mc ms)
  | .ldc _ => gIs (decide (-2147483648 ≤ y) && decide (y < 2147483648)) (P (pc + 2) L (gI y :: S) sh μ mc ms)
  | .ldc2_w _ => P (pc + 3) L (gL y :: S) sh μ mc ms
  | .aconst_null => P (pc + 1) L (gN 0 :: S) sh μ mc ms
  | .dup => (match S with
    | v :: S' => gIs (gC1 v) (P (pc + 1) L (v :: v :: S') sh μ mc ms)
    | [] => False)
  | .dup2 => (match S with
    | v :: w :: S' => gIs (gC1 v && gC1 w) (P (pc + 1) L (v :: w :: v :: w :: S') sh μ mc ms)
    | _ => False)
  | .pop => (match S with
    | v :: S' => gIs (gC1 v) (P (pc + 1) L S' sh μ mc ms)
    | [] => False)
  | .iadd => g2 S fun a b S' => gOk (a + b) ∧ P (pc + 1) L (gI (a + b) :: S') sh μ mc ms
  | .isub => g2 S fun a b S' => gOk (a - b) ∧ P (pc + 1) L (gI (a - b) :: S') sh μ mc ms
  | .imul => g2 S fun a b S' => gOk (a * b) ∧ P (pc + 1) L (gI (a * b) :: S') sh μ mc ms
  | .ineg => g1 S fun a S' => gOk (-a) ∧ P (pc + 1) L (gI (-a) :: S') sh μ mc ms
  | .idiv => g2 S fun a b S' => b ≠ 0 ∧ gOk b ∧ P (pc + 1) L (gI (gDiv a b) :: S') sh μ mc ms
  | .irem => g2 S fun a b S' => b ≠ 0 ∧ gOk b ∧ P (pc + 1) L (gI (gRem a b) :: S') sh μ mc ms
  | .iand => g2 S fun a b S' => P (pc + 1) L (gI (gAnd a b) :: S') sh μ mc ms
  | .ior => g2 S fun a b S' => P (pc + 1) L (gI (gOr a b) :: S') sh μ mc ms
  | .ishl => g2 S fun a b S' => P (pc + 1) L (gI (gShl a b) :: S') sh μ mc ms
  | .ishr => g2 S fun a b S' => P (pc + 1) L (gI (gShr a b) :: S') sh μ mc ms
  | .i2l => g1 S fun a S' => P (pc + 1) L (gL a :: S') sh μ mc ms
  | .i2c => g1 S fun a S' => (0 ≤ a ∧ a < 65536) ∧ P (pc + 1) L (gI a :: S') sh μ mc ms
  | .ladd => gLl S fun a b S' => P (pc + 1) L (gL (a + b) :: S') sh μ mc ms
  | .lmul => gLl S fun a b S' => P (pc + 1) L (gL (a * b) :: S') sh μ mc ms
  | .lcmp => gLl S fun a b S' => a = b ∧ P (pc + 1) L (gI 0 :: S') sh μ mc ms
  | .if_icmp c _ => g2 S fun a b S' => gBr (gIf c a b) (P x L S' sh μ mc ms) (P (pc + 3) L S' sh μ mc ms)
  | .ifCond c _ => g1 S fun a S' => gBr (gIf c a 0) (P x L S' sh μ mc ms) (P (pc + 3) L S' sh μ mc ms)
  | .ifnull _ => (match S with
    | .inr (.inl _) :: S' => P (pc + 3) L S' sh μ mc ms
    | .inr (.inr (.inr 0)) :: S' => P x L S' sh μ mc ms
    | _ => False)
  | .ifnonnull _ => (match S with
    | .inr (.inl _) :: S' => P x L S' sh μ mc ms
    | .inr (.inr (.inr 0)) :: S' => P (pc + 3) L S' sh μ mc ms
    | _ => False)
  | .goto _ => P x L S sh μ mc ms
  | .tableswitch d lo hi offs => g1 S fun a S' => gIs (decide ((offs.size : Int) = hi - lo + 1) && decide (0 ≤ (pc : Int) + d)) ((a < lo ∨ hi < a → P ((pc : Int) + d).toNat L S' sh μ mc ms) ∧ gSw a lo offs.toList fun o => gIs (decide (0 ≤ (pc : Int) + o)) (P ((pc : Int) + o).toNat L S' sh μ mc ms))
  | .getfield _ => gGet P pc L S sh μ mc ms x y
  | .putfield _ => gPut F P pc L S sh μ mc ms x y
  | .iaload => gAld 100 N X M.2.2.2.2.2.2 P pc L S sh μ mc ms
  | .baload => gAld 101 N X M.2.2.2.2.2.2 P pc L S sh μ mc ms
  | .caload => gAld 102 N X M.2.2.2.2.2.2 P pc L S sh μ mc ms
  | .aaload => (match S with
    | .inl i :: .inr (.inl a) :: S' => gCel sh a fun c => gIs (Nat.beq c.1 103 && Nat.beq c.2.1 c.2.2.length) ((0 ≤ i ∧ i < c.2.1) ∧ gSel i 0 c.2.2 fun v => P (pc + 1) L (v :: S') sh μ mc ms)
    | _ => False)
  | .arraylength => (match S with
    | .inr (.inl a) :: S' => gCel sh a fun c => gIs (Nat.ble 100 c.1 && Nat.ble c.1 102 && Nat.blt c.2.1 2147483648) (P (pc + 1) L (gI c.2.1 :: S') sh μ mc ms)
    | .inr (.inr (.inr 1)) :: S' => gIs M.2.2.2.2.2.2 (P (pc + 1) L (gI N :: S') sh μ mc ms)
    | _ => False)
  | .iastore => gAst 100 P pc L S sh μ mc ms
  | .bastore => gAst 101 P pc L S sh μ mc ms
  | .castore => gAst 102 P pc L S sh μ mc ms
  | .aastore => (match S with
    | .inr (.inl r) :: .inl i :: .inr (.inl a) :: S' => gCel sh a fun c => gCel sh r fun c' => gIs (Nat.beq c.1 103 && Nat.beq c'.1 x) ((0 ≤ i ∧ i < c.2.1) ∧ P (pc + 1) L S' (sh.set a (c.1, c.2.1, c.2.2.set i.toNat (some (gR r)))) μ mc ms)
    | _ => False)
  | .newarray t => g1 S fun n S' => gIs (decide (0 ≤ n) && decide (n ≤ 100000) && Nat.ble 100 (gKind t) && Nat.ble 1 mc && Nat.ble n.toNat ms) (P (pc + 2) L (gR sh.length :: S') (sh ++ [(gKind t, n.toNat, [])]) (gZ μ sh.length) (mc - 1) (ms - n.toNat))
  | .anewarray _ => g1 S fun n S' => gIs (decide (0 ≤ n) && decide (n ≤ 100000) && Nat.ble 1 mc && Nat.ble n.toNat ms) (P (pc + 3) L (gR sh.length :: S') (sh ++ [(103, n.toNat, List.replicate n.toNat (some (gN 0)))]) (gZ μ sh.length) (mc - 1) (ms - n.toNat))
  | .new _ => gIs (Nat.ble 1 mc && Nat.ble y.toNat ms) (P (pc + 3) L (gR sh.length :: S) (sh ++ [(x, y.toNat, gIni (F x))]) (gZ μ sh.length) (mc - 1) (ms - y.toNat))
  | .invokestatic _ => (match x with
    | 1001 => gCopy P pc L S sh μ mc ms
    | 1002 => g1 S fun a S' => gIs (Nat.ble (gWt S') 8) (gOk (-a) ∧ P (pc + 3) L (gI (gAbs a) :: S') sh μ mc ms)
    | 1003 => g2 S fun a b S' => gIs (Nat.ble (gWt S') 8) (P (pc + 3) L (gI (max a b) :: S') sh μ mc ms)
    | 1004 => g2 S fun a b S' => gIs (Nat.ble (gWt S') 8) (P (pc + 3) L (gI (min a b) :: S') sh μ mc ms)
    | _ => gInv T call P pc L S sh μ mc ms x y.toNat)
  | .invokevirtual _ => (match S[y.toNat - 1]? with
    | some (.inr (.inl a)) => gCel sh a fun c => gIs (Nat.ble 1 y.toNat && Nat.beq c.1 (T x).1) (gInv T call P pc L S sh μ mc ms x y.toNat)
    | _ => False)
  | .invokespecial _ => (match Nat.beq x 1000 with
    | true => gRf S fun _ S' => gIs (Nat.ble (gWt S') 8) (P (pc + 3) L S' sh μ mc ms)
    | false => match S[y.toNat - 1]? with
      | some (.inr (.inl _)) => gIs (Nat.ble 1 y.toNat) (gInv T call P pc L S sh μ mc ms x y.toNat)
      | _ => False)
  | .ireturn => (match S, M.2.2.2.1 with
    | [.inl a], 1 => Q (some (gI a)) sh μ
    | [.inl a], 2 => (a = 0 ∨ a = 1) ∧ Q (some (gI a)) sh μ
    | _, _ => False)
  | .lreturn => (match S, M.2.2.2.1 with
    | [.inr (.inr (.inl a))], 3 => Q (some (gL a)) sh μ
    | _, _ => False)
  | .areturn => (match S, M.2.2.2.1 with
    | [v], 4 => gIs (gTr v) (Q (some v) sh μ)
    | _, _ => False)
  | .return_ => (match S, M.2.2.2.1 with
    | [], 0 => Q none sh μ
    | _, _ => False)
  | _ => False
def gStep (T : Nat → GM) (F : Nat → List Nat) (call : GCall) (N : Int) (X : Int → Int) (M : GM) (Q : GQ) (P : GP) : GP := fun pc L S sh μ mc ms => match gAt M.2.1 pc with
  | some (i, x, y) => gStI T F call N X M Q P pc L S sh μ mc ms i x y
  | none => False
/-- the run comes to its end with Q: the least predicate that one step keeps -/
def gG (T : Nat → GM) (F : Nat → List Nat) (call : GCall) (N : Int) (X : Int → Int) (M : GM) (Q : GQ) : GP := fun pc L S sh μ mc ms =>
  ∀ P : GP, (∀ P0 pc L S sh μ mc ms, (∀ pc L S sh μ mc ms, P0 pc L S sh μ mc ms → P pc L S sh μ mc ms) → gStep T F call N X M Q P0 pc L S sh μ mc ms → P pc L S sh μ mc ms) → P pc L S sh μ mc ms
theorem gG_step {T F call N X M Q} {P0 : GP} {pc : Nat} {L S : List GV} {sh : SH} {μ : MU} {mc ms : Nat} (h0 : ∀ pc L S sh μ mc ms, P0 pc L S sh μ mc ms → gG T F call N X M Q pc L S sh μ mc ms) (h : gStep T F call N X M Q P0 pc L S sh μ mc ms) : gG T F call N X M Q pc L S sh μ mc ms :=
  fun P hP => hP P0 pc L S sh μ mc ms (fun pc L S sh μ mc ms q => h0 pc L S sh μ mc ms q P hP) h
def gArgs : List GV → List GV
  | [] => []
  | .inr (.inr (.inl a)) :: t => gL a :: gN 2 :: gArgs t
  | v :: t => v :: gArgs t
def gIn (n : Nat) (as : List GV) : List GV := gArgs as ++ List.replicate (n - (gArgs as).length) (gN 2)
def gCall (T : Nat → GM) (F : Nat → List Nat) (N : Int) (X : Int → Int) : Nat → GCall
  | 0 => fun _ _ _ _ _ => False
  | d + 1 => fun j as sh μ Q => gIs (Nat.ble (gArgs as).length (T j).2.2.1) <| gG T F (gCall T F N X d) N X (T j) Q 0 (gIn (T j).2.2.1 as) [] sh μ (T j).2.2.2.2.1 (T j).2.2.2.2.2.1
/-- n steps, or up to a cut -/
def gJ (b : Bool) (A B : Prop) : Prop := match b with
  | true => A
  | false => B
def gB (T : Nat → GM) (F : Nat → List Nat) (call : GCall) (N : Int) (X : Int → Int) (M : GM) (Q : GQ) (cut : List Nat) : Nat → GP
  | 0 => gG T F call N X M Q
  | n + 1 => gStep T F call N X M Q fun pc L S sh μ mc ms => gJ (cut.elem pc) (gG T F call N X M Q pc L S sh μ mc ms) (gB T F call N X M Q cut n pc L S sh μ mc ms)
theorem gB_gG {T F call N X M Q} (cut : List Nat) : ∀ (n : Nat) {pc : Nat} {L S : List GV} {sh : SH} {μ : MU} {mc ms : Nat}, gB T F call N X M Q cut n pc L S sh μ mc ms → gG T F call N X M Q pc L S sh μ mc ms
  | 0, _, _, _, _, _, _, _, h => h
  | n + 1, _, _, _, _, _, _, _, h => gG_step (fun pc L S sh μ mc ms q => by
      cases hb : cut.elem pc with
      | true => rw [hb] at q; exact q
      | false => rw [hb] at q; exact gB_gG cut n q) h
theorem gIs_t {b : Bool} {A : Prop} (h : gIs b A) : b = true ∧ A := by
  cases b
  · exact h.elim
  · exact ⟨rfl, h⟩
theorem gIs_i {b : Bool} {A : Prop} (hb : b = true) (h : A) : gIs b A := by subst hb; exact h
theorem gC {T F} {N : Int} {X : Int → Int} (n : Nat) (cut : List Nat) {d j : Nat} {as : List GV} {sh : SH} {μ : MU} {Q : GQ} (hb : Nat.ble (gArgs as).length (T j).2.2.1 = true) (h : gB T F (gCall T F N X d) N X (T j) Q cut n 0 (gIn (T j).2.2.1 as) [] sh μ (T j).2.2.2.2.1 (T j).2.2.2.2.2.1) : gCall T F N X (d + 1) j as sh μ Q :=
  gIs_i hb (gB_gG cut n h)
