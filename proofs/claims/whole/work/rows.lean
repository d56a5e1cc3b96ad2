section
/-! ===== A SMALL MACHINE: whole numbers, cells by their numbers, one step's weakest precondition over the library's own instructions ===== -/
abbrev GV : Type := Int ⊕ (Nat ⊕ (Int ⊕ Nat))
/-- an int -/
abbrev gI (n : Int) : GV := .inl n
/-- a cell's number -/
abbrev gR (k : Nat) : GV := .inr (.inl k)
/-- a long -/
abbrev gL (n : Int) : GV := .inr (.inr (.inl n))
/-- 0: null; 1: the script; else: nothing -/
abbrev gN (k : Nat) : GV := .inr (.inr (.inr k))
abbrev gOk (n : Int) : Prop := -2147483648 ≤ n ∧ n < 2147483648
/-- a cell's shape: its kind (below 100: an object of that number; 100 int, 101 boolean, 102 char, 103 objects), how many slots, the slots that hold no numbers -/
abbrev GC : Type := Nat × Nat × List (Option GV)
abbrev SH : Type := List GC
abbrev MU : Type := Nat → Int → Int
def gW (μ : MU) (a : Nat) (i v : Int) : MU := fun b => if b = a then (fun j => if j = i then v else μ a j) else μ b
def gZ (μ : MU) (a : Nat) : MU := fun b => if b = a then (fun _ => 0) else μ b
def gCp (μ : MU) (a : Nat) (sp : Int) (b : Nat) (dp n : Int) : MU := fun c => if c = b then (fun j => if dp ≤ j ∧ j < dp + n then μ a (sp + (j - dp)) else μ b j) else μ c
/-- a row of code: place, instruction, two numbers that the tables give for it -/
abbrev GE : Type := Nat × Instr × Nat × Int
def gAt : List GE → Nat → Option (Instr × Nat × Int)
  | [], _ => none
  | e :: t, pc => match Nat.beq e.1 pc with
    | true => some e.2
    | false => gAt t pc
/-- a method: its owner's number, its code, its locals, what it answers (0 nothing, 1 int, 2 boolean, 3 long, 4 a reference), the cells and slots that it makes, whether it reads the script -/
abbrev GM : Type := Nat × List GE × Nat × Nat × Nat × Nat × Bool
abbrev GQ : Type := Option GV → SH → MU → Prop
abbrev GP : Type := Nat → List GV → List GV → SH → MU → Nat → Nat → Prop
abbrev GCall : Type := Nat → List GV → SH → MU → GQ → Prop
def gIs (b : Bool) (A : Prop) : Prop := match b with
  | true => A
  | false => False
def gLd (t : Nat) (o : Option GV) (k : GV → Prop) : Prop := match t, o with
  | 0, some (.inl a) => k (gI a)
  | 1, some (.inr (.inl a)) => k (gR a)
  | 1, some (.inr (.inr (.inr 0))) => k (gN 0)
  | 1, some (.inr (.inr (.inr 1))) => k (gN 1)
  | 2, some (.inr (.inr (.inl a))) => k (gL a)
  | _, _ => False
/-- a reference, null or the script -/
def gTr : GV → Bool
  | .inr (.inl _) => true
  | .inr (.inr (.inr k)) => Nat.blt k 2
  | _ => false
/-- one slot wide -/
def gC1 : GV → Bool
  | .inr (.inr (.inl _)) => false
  | .inr (.inr (.inr k)) => Nat.blt k 2
  | _ => true
def gNoL (L : List GV) : Nat → Bool
  | 0 => true
  | j + 1 => match L[j]? with
    | some (.inr (.inr (.inl _))) => false
    | _ => true
def gSt (L : List GV) (i : Nat) (v : GV) (k : List GV → Prop) : Prop := gIs (Nat.blt i L.length && gNoL L i) (k (L.set i v))
def gSt2 (L : List GV) (i : Nat) (v : GV) (k : List GV → Prop) : Prop := gIs (Nat.blt (i + 1) L.length && gNoL L i) (k ((L.set i v).set (i + 1) (gN 2)))
def g1 (S : List GV) (k : Int → List GV → Prop) : Prop := match S with
  | .inl a :: S' => k a S'
  | _ => False
def g2 (S : List GV) (k : Int → Int → List GV → Prop) : Prop := match S with
  | .inl b :: .inl a :: S' => k a b S'
  | _ => False
def gLl (S : List GV) (k : Int → Int → List GV → Prop) : Prop := match S with
  | .inr (.inr (.inl b)) :: .inr (.inr (.inl a)) :: S' => k a b S'
  | _ => False
def gRf (S : List GV) (k : Nat → List GV → Prop) : Prop := match S with
  | .inr (.inl a) :: S' => k a S'
  | _ => False
def gCel (sh : SH) (a : Nat) (k : GC → Prop) : Prop := match sh[a]? with
  | some c => k c
  | none => False
abbrev gIf (c : ClassFile.Cond) (a b : Int) : Prop := match c with
  | .eq => a = b
  | .ne => a ≠ b
  | .lt => a < b
  | .ge => b ≤ a
  | .gt => b < a
  | .le => a ≤ b
def gBr (p A B : Prop) : Prop := (p → A) ∧ (¬ p → B)
def gSw (a : Int) : Int → List Int → (Int → Prop) → Prop
  | _, [], _ => True
  | j, o :: t, k => (a = j → k o) ∧ gSw a (j + 1) t k
def gSel (i : Int) : Int → List (Option GV) → (GV → Prop) → Prop
  | _, [], _ => True
  | j, o :: t, k => (i = j → match o with
    | some v => k v
    | none => False) ∧ gSel i (j + 1) t k
def gDiv (a b : Int) : Int := (Int32.ofInt a / Int32.ofInt b).toInt
def gRem (a b : Int) : Int := (Int32.ofInt a - Int32.ofInt a / Int32.ofInt b * Int32.ofInt b).toInt
def gAnd (a b : Int) : Int := (Int32.ofInt a &&& Int32.ofInt b).toInt
def gOr (a b : Int) : Int := (Int32.ofInt a ||| Int32.ofInt b).toInt
def gShl (a b : Int) : Int := (Int32.ofInt a <<< (Int32.ofInt b &&& 31)).toInt
def gShr (a b : Int) : Int := (Int32.ofInt a >>> (Int32.ofInt b &&& 31)).toInt
def gWt : List GV → Nat
  | [] => 0
  | .inr (.inr (.inl _)) :: t => 2 + gWt t
  | _ :: t => 1 + gWt t
def gKind : ArrayType → Nat
  | .int => 100
  | .boolean => 101
  | .char => 102
  | _ => 0
def gIni : List Nat → List (Option GV)
  | [] => []
  | k :: t => (if k < 2 then none else some (gN 0)) :: gIni t
/-- a call of the method x with n arguments -/
def gInv (T : Nat → GM) (call : GCall) (P : GP) (pc : Nat) (L S : List GV) (sh : SH) (μ : MU) (mc ms x n : Nat) : Prop :=
  gIs (Nat.ble n S.length && Nat.ble (gWt (S.drop n)) 8 && Nat.ble (T x).2.2.2.2.1 mc && Nat.ble (T x).2.2.2.2.2.1 ms)
  (call x (S.take n).reverse sh μ (fun r sh' μ' => P (pc + 3) L (r.toList ++ S.drop n) sh' μ' (mc - (T x).2.2.2.2.1) (ms - (T x).2.2.2.2.2.1)))
def gCopy (P : GP) (pc : Nat) (L S : List GV) (sh : SH) (μ : MU) (mc ms : Nat) : Prop := match S with
  | .inl n :: .inl dp :: .inr (.inl b) :: .inl sp :: .inr (.inl a) :: S' => gCel sh a fun ca => gCel sh b fun cb => gIs (Nat.beq ca.1 100 && Nat.beq cb.1 100 && Nat.ble (gWt S') 8) ((0 ≤ sp ∧ 0 ≤ dp ∧ 0 ≤ n ∧ sp + n ≤ ca.2.1 ∧ dp + n ≤ cb.2.1) ∧ P (pc + 3) L S' sh (gCp μ a sp b dp n) mc ms)
  | _ => False
def gPut (F : Nat → List Nat) (P : GP) (pc : Nat) (L S : List GV) (sh : SH) (μ : MU) (mc ms x : Nat) (y : Int) : Prop := match S with
  | .inl n :: .inr (.inl a) :: S' => gCel sh a fun c => gIs (Nat.beq c.1 x) (match c.2.2[y.toNat]?, (F x)[y.toNat]? with
    | some none, some 0 => P (pc + 3) L S' sh (gW μ a y n) mc ms
    | some none, some 1 => (n = 0 ∨ n = 1) ∧ P (pc + 3) L S' sh (gW μ a y n) mc ms
    | _, _ => False)
  | .inr (.inl r) :: .inr (.inl a) :: S' => gCel sh a fun c => gIs (Nat.beq c.1 x) (match c.2.2[y.toNat]?, (F x)[y.toNat]? with
    | some (some _), some 2 => P (pc + 3) L S' (sh.set a (c.1, c.2.1, c.2.2.set y.toNat (some (gR r)))) μ mc ms
    | _, _ => False)
  | _ => False
def gGet (P : GP) (pc : Nat) (L S : List GV) (sh : SH) (μ : MU) (mc ms x : Nat) (y : Int) : Prop := gRf S fun a S' => gCel sh a fun c => gIs (Nat.beq c.1 x) (match c.2.2[y.toNat]? with
    | some none => P (pc + 3) L (gI (μ a y) :: S') sh μ mc ms
    | some (some v) => P (pc + 3) L (v :: S') sh μ mc ms
    | none => False)
def gAld (kind : Nat) (N : Int) (X : Int → Int) (u : Bool) (P : GP) (pc : Nat) (L S : List GV) (sh : SH) (μ : MU) (mc ms : Nat) : Prop := match S with
  | .inl i :: .inr (.inl a) :: S' => gCel sh a fun c => gIs (Nat.beq c.1 kind) ((0 ≤ i ∧ i < c.2.1) ∧ P (pc + 1) L (gI (μ a i) :: S') sh μ mc ms)
  | .inl i :: .inr (.inr (.inr 1)) :: S' => gIs (u && Nat.beq kind 100) ((0 ≤ i ∧ i < N) ∧ P (pc + 1) L (gI (X i) :: S') sh μ mc ms)
  | _ => False
def gAst (kind : Nat) (P : GP) (pc : Nat) (L S : List GV) (sh : SH) (μ : MU) (mc ms : Nat) : Prop := match S with
  | .inl v :: .inl i :: .inr (.inl a) :: S' => gCel sh a fun c => gIs (Nat.beq c.1 kind) ((0 ≤ i ∧ i < c.2.1) ∧ (match kind with
    | 100 => P (pc + 1) L S' sh (gW μ a i v) mc ms
    | 101 => (v = 0 ∨ v = 1) ∧ P (pc + 1) L S' sh (gW μ a i v) mc ms
    | 102 => (0 ≤ v ∧ v < 65536) ∧ P (pc + 1) L S' sh (gW μ a i v) mc ms
    | _ => False))
  | _ => False
def gStI (T : Nat → GM) (F : Nat → List Nat) (call : GCall) (N : Int) (X : Int → Int) (M : GM) (Q : GQ) (P : GP) (pc : Nat) (L S : List GV) (sh : SH) (μ : MU) (mc ms : Nat) (i : Instr) (x : Nat) (y : Int) : Prop := match i with
  | .aload_n k => gLd 1 L[(k : Nat)]? fun v => P (pc + 1) L (v :: S) sh μ mc ms
  | .aload k => gLd 1 L[k]? fun v => P (pc + 2) L (v :: S) sh μ mc ms
  | .iload_n k => gLd 0 L[(k : Nat)]? fun v => P (pc + 1) L (v :: S) sh μ mc ms
  | .iload k => gLd 0 L[k]? fun v => P (pc + 2) L (v :: S) sh μ mc ms
  | .lload_n k => gLd 2 L[(k : Nat)]? fun v => P (pc + 1) L (v :: S) sh μ mc ms
  | .lload k => gLd 2 L[k]? fun v => P (pc + 2) L (v :: S) sh μ mc ms
  | .istore_n k => g1 S fun a S' => gSt L k (gI a) fun L' => P (pc + 1) L' S' sh μ mc ms
  | .istore k => g1 S fun a S' => gSt L k (gI a) fun L' => P (pc + 2) L' S' sh μ mc ms
  | .astore_n k => (match S with
    | v :: S' => gIs (gTr v) (gSt L k v fun L' => P (pc + 1) L' S' sh μ mc ms)
    | [] => False)
  | .lstore_n k => (match S with
    | .inr (.inr (.inl a)) :: S' => gSt2 L k (gL a) fun L' => P (pc + 1) L' S' sh μ mc ms
    | _ => False)
  | .iinc k n => (match L[k]? with
    | some (.inl a) => gIs (decide (-2147483648 ≤ n) && decide (n < 2147483648)) (gOk (a + n) ∧ gSt L k (gI (a + n)) fun L' => P (pc + 3) L' S sh μ mc ms)
    | _ => False)
  | .iconst n => gIs (decide (-2147483648 ≤ n) && decide (n < 2147483648)) (P (pc + 1) L (gI n :: S) sh μ mc ms)
  | .bipush n => gIs (decide (-128 ≤ n) && decide (n < 128)) (P (pc + 2) L (gI n :: S) sh μ mc ms)
  | .sipush n => gIs (decide (-32768 ≤ n) && decide (n < 32768)) (P (pc + 3) L (gI n :: S) sh μ mc ms)
  | .ldc _ => gIs (decide (-2147483648 ≤ y) && decide (y < 2147483648)) (P (pc + 2) L (gI y :: S) sh μ mc ms)
  | .ldc2_w _ => P (pc + 3) L (gL y :: S) sh μ mc ms
  | .aconst_null => P (pc + 1) L (gN 0 :: S) sh μ mc ms
  | .dup => (match S with
    | v :: S' => gIs (gC1 v) (P (pc + 1) L (v :: v :: S') sh μ mc ms)
    | [] => False)
  | .dup2 => (match S with
    | v :: w :: S' => gIs (gC1 v && gC1 w) (P (pc + 1) L (v :: w :: v :: w :: S') sh μ mc ms)
    | _ => False)
  | .pop => (match S with
    | v :: S' => gIs (gC1 v) (P (pc + 1) L S' sh μ mc ms)
    | [] => False)
  | .iadd => g2 S fun a b S' => gOk (a + b) ∧ P (pc + 1) L (gI (a + b) :: S') sh μ mc ms
  | .isub => g2 S fun a b S' => gOk (a - b) ∧ P (pc + 1) L (gI (a - b) :: S') sh μ mc ms
  | .imul => g2 S fun a b S' => gOk (a * b) ∧ P (pc + 1) L (gI (a * b) :: S') sh μ mc ms
  | .ineg => g1 S fun a S' => gOk (-a) ∧ P (pc + 1) L (gI (-a) :: S') sh μ mc ms
  | .idiv => g2 S fun a b S' => b ≠ 0 ∧ gOk b ∧ P (pc + 1) L (gI (gDiv a b) :: S') sh μ mc ms
  | .irem => g2 S fun a b S' => b ≠ 0 ∧ gOk b ∧ P (pc + 1) L (gI (gRem a b) :: S') sh μ mc ms
  | .iand => g2 S fun a b S' => P (pc + 1) L (gI (gAnd a b) :: S') sh μ mc ms
  | .ior => g2 S fun a b S' => P (pc + 1) L (gI (gOr a b) :: S') sh μ mc ms
  | .ishl => g2 S fun a b S' => P (pc + 1) L (gI (gShl a b) :: S') sh μ mc ms
  | .ishr => g2 S fun a b S' => P (pc + 1) L (gI (gShr a b) :: S') sh μ mc ms
  | .i2l => g1 S fun a S' => P (pc + 1) L (gL a :: S') sh μ mc ms
  | .i2c => g1 S fun a S' => (0 ≤ a ∧ a < 65536) ∧ P (pc + 1) L (gI a :: S') sh μ mc ms
  | .ladd => gLl S fun a b S' => P (pc + 1) L (gL (a + b) :: S') sh μ mc ms
  | .lmul => gLl S fun a b S' => P (pc + 1) L (gL (a * b) :: S') sh μ mc ms
  | .lcmp => gLl S fun a b S' => a = b ∧ P (pc + 1) L (gI 0 :: S') sh μ mc ms
  | .if_icmp c _ => g2 S fun a b S' => gBr (gIf c a b) (P x L S' sh μ mc ms) (P (pc + 3) L S' sh μ mc ms)
  | .ifCond c _ => g1 S fun a S' => gBr (gIf c a 0) (P x L S' sh μ mc ms) (P (pc + 3) L S' sh μ mc ms)
  | .ifnull _ => (match S with
    | .inr (.inl _) :: S' => P (pc + 3) L S' sh μ mc ms
    | .inr (.inr (.inr 0)) :: S' => P x L S' sh μ mc ms
    | _ => False)
  | .ifnonnull _ => (match S with
    | .inr (.inl _) :: S' => P x L S' sh μ mc ms
    | .inr (.inr (.inr 0)) :: S' => P (pc + 3) L S' sh μ mc ms
    | _ => False)
  | .goto _ => P x L S sh μ mc ms
  | .tableswitch d lo hi offs => g1 S fun a S' => gIs (decide ((offs.size : Int) = hi - lo + 1) && decide (0 ≤ (pc : Int) + d)) ((a < lo ∨ hi < a → P ((pc : Int) + d).toNat L S' sh μ mc ms) ∧ gSw a lo offs.toList fun o => gIs (decide (0 ≤ (pc : Int) + o)) (P ((pc : Int) + o).toNat L S' sh μ mc ms))
  | .getfield _ => gGet P pc L S sh μ mc ms x y
  | .putfield _ => gPut F P pc L S sh μ mc ms x y
  | .iaload => gAld 100 N X M.2.2.2.2.2.2 P pc L S sh μ mc ms
  | .baload => gAld 101 N X M.2.2.2.2.2.2 P pc L S sh μ mc ms
  | .caload => gAld 102 N X M.2.2.2.2.2.2 P pc L S sh μ mc ms
  | .aaload => (match S with
    | .inl i :: .inr (.inl a) :: S' => gCel sh a fun c => gIs (Nat.beq c.1 103 && Nat.beq c.2.1 c.2.2.length) ((0 ≤ i ∧ i < c.2.1) ∧ gSel i 0 c.2.2 fun v => P (pc + 1) L (v :: S') sh μ mc ms)
    | _ => False)
  | .arraylength => (match S with
    | .inr (.inl a) :: S' => gCel sh a fun c => gIs (Nat.ble 100 c.1 && Nat.ble c.1 102 && Nat.blt c.2.1 2147483648) (P (pc + 1) L (gI c.2.1 :: S') sh μ mc ms)
    | .inr (.inr (.inr 1)) :: S' => gIs M.2.2.2.2.2.2 (P (pc + 1) L (gI N :: S') sh μ mc ms)
    | _ => False)
  | .iastore => gAst 100 P pc L S sh μ mc ms
  | .bastore => gAst 101 P pc L S sh μ mc ms
  | .castore => gAst 102 P pc L S sh μ mc ms
  | .aastore => (match S with
    | .inr (.inl r) :: .inl i :: .inr (.inl a) :: S' => gCel sh a fun c => gCel sh r fun c' => gIs (Nat.beq c.1 103 && Nat.beq c'.1 x) ((0 ≤ i ∧ i < c.2.1) ∧ P (pc + 1) L S' (sh.set a (c.1, c.2.1, c.2.2.set i.toNat (some (gR r)))) μ mc ms)
    | _ => False)
  | .newarray t => g1 S fun n S' => gIs (decide (0 ≤ n) && decide (n ≤ 100000) && Nat.ble 100 (gKind t) && Nat.ble 1 mc && Nat.ble n.toNat ms) (P (pc + 2) L (gR sh.length :: S') (sh ++ [(gKind t, n.toNat, [])]) (gZ μ sh.length) (mc - 1) (ms - n.toNat))
  | .anewarray _ => g1 S fun n S' => gIs (decide (0 ≤ n) && decide (n ≤ 100000) && Nat.ble 1 mc && Nat.ble n.toNat ms) (P (pc + 3) L (gR sh.length :: S') (sh ++ [(103, n.toNat, List.replicate n.toNat (some (gN 0)))]) (gZ μ sh.length) (mc - 1) (ms - n.toNat))
  | .new _ => gIs (Nat.ble 1 mc && Nat.ble y.toNat ms) (P (pc + 3) L (gR sh.length :: S) (sh ++ [(x, y.toNat, gIni (F x))]) (gZ μ sh.length) (mc - 1) (ms - y.toNat))
  | .invokestatic _ => (match Nat.beq x 1001 with
    | true => gCopy P pc L S sh μ mc ms
    | false => gInv T call P pc L S sh μ mc ms x y.toNat)
  | .invokevirtual _ => (match S[y.toNat - 1]? with
    | some (.inr (.inl a)) => gCel sh a fun c => gIs (Nat.ble 1 y.toNat && Nat.beq c.1 (T x).1) (gInv T call P pc L S sh μ mc ms x y.toNat)
    | _ => False)
  | .invokespecial _ => (match Nat.beq x 1000 with
    | true => gRf S fun _ S' => gIs (Nat.ble (gWt S') 8) (P (pc + 3) L S' sh μ mc ms)
    | false => match S[y.toNat - 1]? with
      | some (.inr (.inl _)) => gIs (Nat.ble 1 y.toNat) (gInv T call P pc L S sh μ mc ms x y.toNat)
      | _ => False)
  | .ireturn => (match S, M.2.2.2.1 with
    | [.inl a], 1 => Q (some (gI a)) sh μ
    | [.inl a], 2 => (a = 0 ∨ a = 1) ∧ Q (some (gI a)) sh μ
    | _, _ => False)
  | .lreturn => (match S, M.2.2.2.1 with
    | [.inr (.inr (.inl a))], 3 => Q (some (gL a)) sh μ
    | _, _ => False)
  | .areturn => (match S, M.2.2.2.1 with
    | [v], 4 => gIs (gTr v) (Q (some v) sh μ)
    | _, _ => False)
  | .return_ => (match S, M.2.2.2.1 with
    | [], 0 => Q none sh μ
    | _, _ => False)
  | _ => False
def gStep (T : Nat → GM) (F : Nat → List Nat) (call : GCall) (N : Int) (X : Int → Int) (M : GM) (Q : GQ) (P : GP) : GP := fun pc L S sh μ mc ms => match gAt M.2.1 pc with
  | some (i, x, y) => gStI T F call N X M Q P pc L S sh μ mc ms i x y
  | none => False
/-- the run comes to its end with Q: the least predicate that one step keeps -/
def gG (T : Nat → GM) (F : Nat → List Nat) (call : GCall) (N : Int) (X : Int → Int) (M : GM) (Q : GQ) : GP := fun pc L S sh μ mc ms =>
  ∀ P : GP, (∀ P0 pc L S sh μ mc ms, (∀ pc L S sh μ mc ms, P0 pc L S sh μ mc ms → P pc L S sh μ mc ms) → gStep T F call N X M Q P0 pc L S sh μ mc ms → P pc L S sh μ mc ms) → P pc L S sh μ mc ms
theorem gG_step {T F call N X M Q} {P0 : GP} {pc : Nat} {L S : List GV} {sh : SH} {μ : MU} {mc ms : Nat} (h0 : ∀ pc L S sh μ mc ms, P0 pc L S sh μ mc ms → gG T F call N X M Q pc L S sh μ mc ms) (h : gStep T F call N X M Q P0 pc L S sh μ mc ms) : gG T F call N X M Q pc L S sh μ mc ms :=
  fun P hP => hP P0 pc L S sh μ mc ms (fun pc L S sh μ mc ms q => h0 pc L S sh μ mc ms q P hP) h
def gArgs : List GV → List GV
  | [] => []
  | .inr (.inr (.inl a)) :: t => gL a :: gN 2 :: gArgs t
  | v :: t => v :: gArgs t
def gIn (n : Nat) (as : List GV) : List GV := gArgs as ++ List.replicate (n - (gArgs as).length) (gN 2)
def gCall (T : Nat → GM) (F : Nat → List Nat) : Nat → GCall
  | 0 => fun _ _ _ _ _ => False
  | d + 1 => fun j as sh μ Q => gIs (!(T j).2.2.2.2.2.2 && Nat.ble (gArgs as).length (T j).2.2.1) <| gG T F (gCall T F d) 0 (fun _ => 0) (T j) Q 0 (gIn (T j).2.2.1 as) [] sh μ (T j).2.2.2.2.1 (T j).2.2.2.2.2.1
/-- n steps, or up to a cut -/
def gJ (b : Bool) (A B : Prop) : Prop := match b with
  | true => A
  | false => B
def gB (T : Nat → GM) (F : Nat → List Nat) (call : GCall) (N : Int) (X : Int → Int) (M : GM) (Q : GQ) (cut : List Nat) : Nat → GP
  | 0 => gG T F call N X M Q
  | n + 1 => gStep T F call N X M Q fun pc L S sh μ mc ms => gJ (cut.elem pc) (gG T F call N X M Q pc L S sh μ mc ms) (gB T F call N X M Q cut n pc L S sh μ mc ms)
theorem gB_gG {T F call N X M Q} (cut : List Nat) : ∀ (n : Nat) {pc : Nat} {L S : List GV} {sh : SH} {μ : MU} {mc ms : Nat}, gB T F call N X M Q cut n pc L S sh μ mc ms → gG T F call N X M Q pc L S sh μ mc ms
  | 0, _, _, _, _, _, _, _, h => h
  | n + 1, _, _, _, _, _, _, _, h => gG_step (fun pc L S sh μ mc ms q => by
      cases hb : cut.elem pc with
      | true => rw [hb] at q; exact q
      | false => rw [hb] at q; exact gB_gG cut n q) h
theorem gIs_t {b : Bool} {A : Prop} (h : gIs b A) : b = true ∧ A := by
  cases b
  · exact h.elim
  · exact ⟨rfl, h⟩
theorem gIs_i {b : Bool} {A : Prop} (hb : b = true) (h : A) : gIs b A := by subst hb; exact h
theorem gC {T F} (n : Nat) (cut : List Nat) {d j : Nat} {as : List GV} {sh : SH} {μ : MU} {Q : GQ} (hb : (!(T j).2.2.2.2.2.2 && Nat.ble (gArgs as).length (T j).2.2.1) = true) (h : gB T F (gCall T F d) 0 (fun _ => 0) (T j) Q cut n 0 (gIn (T j).2.2.1 as) [] sh μ (T j).2.2.2.2.1 (T j).2.2.2.2.2.1) : gCall T F (d + 1) j as sh μ Q :=
  gIs_i hb (gB_gG cut n h)
end
section
/-! ===== what the small machine's values and cells are in the real one ===== -/
def gVr (ad : List Nat) (b : Nat) : GV → Value → Prop
  | .inl n, v => v = .int (Int32.ofInt n) ∧ gOk n
  | .inr (.inl k), v => ∃ a, ad[k]? = some a ∧ v = .ref a
  | .inr (.inr (.inl n)), v => v = .long (Int64.ofInt n)
  | .inr (.inr (.inr 0)), v => v = .null
  | .inr (.inr (.inr 1)), v => v = .ref b
  | _, _ => False
def gHv : GV → Bool
  | .inr (.inr (.inr k)) => Nat.blt k 2
  | _ => true
def gSr (ad : List Nat) (b : Nat) : List GV → List Value → Prop
  | [], [] => True
  | v :: S, w :: st => gVr ad b v w ∧ gSr ad b S st
  | _, _ => False
def gLv (ad : List Nat) (b : Nat) (L : List GV) (lv : List (Nat × Value)) : Prop := ∀ (i : Nat) (v : GV), L[i]? = some v → gHv v = true → ∃ w, (i, w) ∈ lv ∧ gVr ad b v w
def gLr (ad : List Nat) (b : Nat) (L : List GV) (ls : Array Slot) : Prop := ∃ lv, lv_has ls L.length lv ∧ gLv ad b L lv
def gCe (cA : Nat → ClassId) (ad : List Nat) (b : Nat) (c : GC) (r : Int → Int) (e : va_E) : Prop :=
  (c.1 < 100 ∧ c.2.2.length = c.2.1 ∧ ∃ fs : List Value, e = .inr (c.1, fs) ∧ fs.length = c.2.1 ∧ ∀ (k : Nat) (o : Option GV), c.2.2[k]? = some o → ∃ w, fs[k]? = some w ∧ (match o with
    | none => gVr ad b (gI (r k)) w
    | some v => gTr v = true ∧ gVr ad b v w))
  ∨ (100 ≤ c.1 ∧ c.1 < 103 ∧ ∃ f : Nat → Int32, e = .inl (cA (c.1 - 100), c.2.1, .inl f) ∧ ∀ j : Nat, j < c.2.1 → f j = Int32.ofInt (r j) ∧ gOk (r j))
  ∨ (c.1 = 103 ∧ c.2.2.length = c.2.1 ∧ ∃ f : Nat → Option Nat, e = .inl (cA 3, c.2.1, .inr (.inr (.inr (.inr f)))) ∧ ∀ (j : Nat) (o : Option GV), c.2.2[j]? = some o → (o = some (gN 0) ∧ f j = none) ∨ ∃ k a, o = some (gR k) ∧ ad[k]? = some a ∧ f j = some a)
def gWr (cA : Nat → ClassId) (a0 ad : List Nat) (b : Nat) (sh : SH) (μ : MU) (ws : va_W) : Prop := ws.map Prod.fst = ad ∧ ws.length = sh.length ∧ (∀ (k : Nat) (c : GC), sh[k]? = some c → ∃ q : Nat × va_E, ws[k]? = some q ∧ gCe cA ad b c (μ k) q.2) ∧ ∀ k a : Nat, a0[k]? = some a → ad[k]? = some a
theorem g_toInt {n : Int} (h : gOk n) : (Int32.ofInt n).toInt = n := Int32.toInt_ofInt_of_le (by have := h.1; omega) (by have := h.2; omega)
theorem g_le {a b : Int} (ha : gOk a) (hb : gOk b) : Int32.ofInt a ≤ Int32.ofInt b ↔ a ≤ b := by rw [Int32.le_iff_toInt_le, g_toInt ha, g_toInt hb]
theorem g_lt {a b : Int} (ha : gOk a) (hb : gOk b) : Int32.ofInt a < Int32.ofInt b ↔ a < b := by rw [Int32.lt_iff_toInt_lt, g_toInt ha, g_toInt hb]
theorem g_eq {a b : Int} (ha : gOk a) (hb : gOk b) : Int32.ofInt a = Int32.ofInt b ↔ a = b := by rw [← Int32.toInt_inj, g_toInt ha, g_toInt hb]
theorem g_cl {a : Int} (ha : gOk a) : (Int32.ofInt a).toNatClampNeg = a.toNat := by rw [← Int32.toNat_toInt, g_toInt ha]
theorem g_rng (x : Int32) : gOk x.toInt := ⟨Int32.le_toInt x, Int32.toInt_lt x⟩
theorem g_in {i : Int} {n : Nat} (hi : gOk i) (h0 : 0 ≤ i) (h1 : i < n) : vp_in (Int32.ofInt i) n := vp_in_iff.mpr (by rw [g_toInt hi]; exact ⟨h0, h1⟩)
theorem gVr.cat {ad : List Nat} {b : Nat} {v : GV} {w : Value} (h : gVr ad b v w) (hc : gC1 v = true) : w.category = 1 := by
  rcases v with n | k | n | k
  · rw [h.1]; rfl
  · obtain ⟨a, -, rfl⟩ := h; rfl
  · cases hc
  · match k, h with
    | 0, h => rw [show w = .null from h]; rfl
    | 1, h => rw [show w = .ref b from h]; rfl
theorem gVr.nl {ad : List Nat} {b : Nat} {v : GV} {w : Value} (h : gVr ad b v w) (hc : ∀ n, v ≠ gL n) : w.category = 1 := by
  rcases v with n | k | n | k
  · rw [h.1]; rfl
  · obtain ⟨a, -, rfl⟩ := h; rfl
  · exact absurd rfl (hc n)
  · match k, h with
    | 0, h => rw [show w = .null from h]; rfl
    | 1, h => rw [show w = .ref b from h]; rfl
theorem gVr.mono {ad ad' : List Nat} {b : Nat} (ha : ∀ (k a : Nat), ad[k]? = some a → ad'[k]? = some a) {v : GV} {w : Value} (h : gVr ad b v w) : gVr ad' b v w := by
  rcases v with n | k | n | k
  · exact h
  · obtain ⟨a, h1, h2⟩ := h; exact ⟨a, ha k a h1, h2⟩
  · exact h
  · match k, h with
    | 0, h => exact h
    | 1, h => exact h
theorem gSr.mono {ad ad' : List Nat} {b : Nat} (ha : ∀ (k a : Nat), ad[k]? = some a → ad'[k]? = some a) : ∀ {S : List GV} {st : List Value}, gSr ad b S st → gSr ad' b S st
  | [], [], _ => trivial
  | _ :: _, _ :: _, h => ⟨h.1.mono ha, gSr.mono ha h.2⟩
theorem gLr.mono {ad ad' : List Nat} {b : Nat} (ha : ∀ (k a : Nat), ad[k]? = some a → ad'[k]? = some a) {L : List GV} {ls : Array Slot} (h : gLr ad b L ls) : gLr ad' b L ls := by
  obtain ⟨lv, h1, h2⟩ := h
  refine ⟨lv, h1, fun i v hv hh => ?_⟩
  obtain ⟨w, h3, h4⟩ := h2 i v hv hh
  exact ⟨w, h3, h4.mono ha⟩
theorem gCe.mono {cA : Nat → ClassId} {ad ad' : List Nat} {b : Nat} (ha : ∀ (k a : Nat), ad[k]? = some a → ad'[k]? = some a) {c : GC} {r : Int → Int} {e : va_E} (h : gCe cA ad b c r e) : gCe cA ad' b c r e := by
  rcases h with ⟨h1, h2, fs, h3, h4, h5⟩ | h | ⟨h1, h2, f, h3, h4⟩
  · refine Or.inl ⟨h1, h2, fs, h3, h4, fun k o ho => ?_⟩
    obtain ⟨w, h6, h7⟩ := h5 k o ho
    refine ⟨w, h6, ?_⟩
    cases o with
    | none => exact h7
    | some v => exact ⟨h7.1, h7.2.mono ha⟩
  · exact Or.inr (Or.inl h)
  · refine Or.inr (Or.inr ⟨h1, h2, f, h3, fun j o ho => ?_⟩)
    rcases h4 j o ho with h | ⟨k, a, h5, h6, h7⟩
    · exact Or.inl h
    · exact Or.inr ⟨k, a, h5, ha k a h6, h7⟩
theorem gWr.at {cA : Nat → ClassId} {a0 ad : List Nat} {b : Nat} {sh : SH} {μ : MU} {ws : va_W} (h : gWr cA a0 ad b sh μ ws) {k a : Nat} {c : GC} (hk : sh[k]? = some c) (ha : ad[k]? = some a) : ∃ e, ws[k]? = some (a, e) ∧ gCe cA ad b c (μ k) e := by
  obtain ⟨q, h1, h2⟩ := h.2.2.1 k c hk
  refine ⟨q.2, ?_, h2⟩
  rw [← h.1, List.getElem?_map, h1] at ha
  cases ha
  exact h1
theorem gLr.get {ad : List Nat} {b : Nat} {L : List GV} {ls : Array Slot} (h : gLr ad b L ls) {i : Nat} {v : GV} (hv : L[i]? = some v) (hh : gHv v = true) : ∃ w, ls[i]? = some (.val w) ∧ gVr ad b v w := by
  obtain ⟨lv, h1, h2⟩ := h
  obtain ⟨w, h3, h4⟩ := h2 i v hv hh
  exact ⟨w, h1.2.2 _ h3, h4⟩
theorem gLv.set {ad : List Nat} {b : Nat} {L : List GV} {lv : List (Nat × Value)} (h : gLv ad b L lv) {i : Nat} {v : GV} {w : Value} (hi : i < L.length) (hn : gNoL L i = true) (hv : gVr ad b v w) {ls' : Array Slot}
    (h' : lv_has ls' L.length ((i, w) :: lv.filter (fun q => !(q.1 == i) && !(q.1 + 1 == i && q.2.category == 2)))) : gLr ad b (L.set i v) ls' := by
  refine ⟨_, by rw [List.length_set]; exact h', fun j u hj hu => ?_⟩
  by_cases hji : j = i
  · subst hji
    rw [List.getElem?_set_self hi] at hj
    cases hj
    exact ⟨w, List.mem_cons_self, hv⟩
  · rw [List.getElem?_set_ne (Ne.symm hji)] at hj
    obtain ⟨w', hm, hr⟩ := h j u hj hu
    refine ⟨w', List.mem_cons_of_mem _ (List.mem_filter.mpr ⟨hm, ?_⟩), hr⟩
    by_cases hj1 : j + 1 = i
    · subst hj1
      have hc : w'.category = 1 := hr.nl (fun n hn' => by subst hn'; simp [gNoL, hj] at hn)
      simp [hc]
    · simp [hji, hj1]
theorem gLv.set2 {ad : List Nat} {b : Nat} {L : List GV} {lv : List (Nat × Value)} (h : gLv ad b L lv) {i : Nat} {v : GV} {w : Value} (hi : i + 1 < L.length) (hn : gNoL L i = true) (hv : gVr ad b v w) {ls' : Array Slot}
    (h' : lv_has ls' L.length ((i, w) :: lv.filter (fun q => !(q.1 == i) && (!(q.1 == i + 1) && !(q.1 + 1 == i && q.2.category == 2))))) : gLr ad b ((L.set i v).set (i + 1) (gN 2)) ls' := by
  refine ⟨_, by rw [List.length_set, List.length_set]; exact h', fun j u hj hu => ?_⟩
  by_cases hj2 : j = i + 1
  · subst hj2
    rw [List.getElem?_set_self (by rw [List.length_set]; exact hi)] at hj
    cases hj
    cases hu
  · rw [List.getElem?_set_ne (Ne.symm hj2)] at hj
    by_cases hji : j = i
    · subst hji
      rw [List.getElem?_set_self (by omega)] at hj
      cases hj
      exact ⟨w, List.mem_cons_self, hv⟩
    · rw [List.getElem?_set_ne (Ne.symm hji)] at hj
      obtain ⟨w', hm, hr⟩ := h j u hj hu
      refine ⟨w', List.mem_cons_of_mem _ (List.mem_filter.mpr ⟨hm, ?_⟩), hr⟩
      by_cases hj1 : j + 1 = i
      · subst hj1
        have hc : w'.category = 1 := hr.nl (fun n hn' => by subst hn'; simp [gNoL, hj] at hn)
        simp [hc, hj2]
      · simp [hji, hj1, hj2]
theorem gWr.set {cA : Nat → ClassId} {a0 ad : List Nat} {b : Nat} {sh : SH} {μ μ' : MU} {ws : va_W} (h : gWr cA a0 ad b sh μ ws) {k a : Nat} {c c' : GC} {e e' : va_E} (hk : sh[k]? = some c) (ha : ws[k]? = some (a, e)) (he : gCe cA ad b c' (μ' k) e') (ho : ∀ j, j ≠ k → μ' j = μ j) : gWr cA a0 ad b (sh.set k c') μ' (ws.set k (a, e')) := by
  have hkl := (List.getElem?_eq_some_iff.mp hk).1
  have hwl := (List.getElem?_eq_some_iff.mp ha).1
  refine ⟨?_, by rw [List.length_set, List.length_set]; exact h.2.1, fun j d hd => ?_, h.2.2.2⟩
  · rw [← h.1]
    apply List.ext_getElem?
    intro j
    rw [List.getElem?_map, List.getElem?_map]
    by_cases hj : j = k
    · subst hj; rw [List.getElem?_set_self hwl, ha]; rfl
    · rw [List.getElem?_set_ne (Ne.symm hj)]
  · by_cases hj : j = k
    · subst hj
      rw [List.getElem?_set_self hkl] at hd
      cases hd
      exact ⟨(a, e'), by rw [List.getElem?_set_self hwl], he⟩
    · rw [List.getElem?_set_ne (Ne.symm hj)] at hd
      obtain ⟨q, h1, h2⟩ := h.2.2.1 j d hd
      exact ⟨q, by rw [List.getElem?_set_ne (Ne.symm hj)]; exact h1, by rw [ho j hj]; exact h2⟩
theorem gWr.push {cA : Nat → ClassId} {a0 ad : List Nat} {b : Nat} {sh : SH} {μ μ' : MU} {ws : va_W} (h : gWr cA a0 ad b sh μ ws) {q : Nat} {c : GC} {e : va_E} (he : gCe cA (ad ++ [q]) b c (μ' sh.length) e) (ho : ∀ j, j ≠ sh.length → μ' j = μ j) : gWr cA a0 (ad ++ [q]) b (sh ++ [c]) μ' (ws ++ [(q, e)]) := by
  have hmono : ∀ (k a : Nat), ad[k]? = some a → (ad ++ [q])[k]? = some a := fun k a hk => by rw [List.getElem?_append_left (List.getElem?_eq_some_iff.mp hk).1]; exact hk
  refine ⟨by rw [List.map_append, h.1]; rfl, by rw [List.length_append, List.length_append, h.2.1]; rfl, fun j d hd => ?_, fun k a hk => hmono k a (h.2.2.2 k a hk)⟩
  by_cases hj : j < sh.length
  · rw [List.getElem?_append_left hj] at hd
    obtain ⟨x, h1, h2⟩ := h.2.2.1 j d hd
    exact ⟨x, by rw [List.getElem?_append_left (by rw [h.2.1]; exact hj)]; exact h1, by rw [ho j (by omega)]; exact h2.mono hmono⟩
  · rw [List.getElem?_append_right (by omega)] at hd
    have hz : j - sh.length < 1 := (List.getElem?_eq_some_iff.mp hd).1
    have hjj : j = sh.length := by omega
    subst hjj
    rw [Nat.sub_self] at hd
    cases hd
    exact ⟨(q, e), by rw [List.getElem?_append_right (by rw [h.2.1]; exact Nat.le_refl _), h.2.1, Nat.sub_self]; rfl, he⟩
theorem gWr.len {cA : Nat → ClassId} {a0 ad : List Nat} {b : Nat} {sh : SH} {μ : MU} {ws : va_W} (h : gWr cA a0 ad b sh μ ws) : ad.length = sh.length := by rw [← h.1, List.length_map, h.2.1]
theorem gVr.mkI {ad : List Nat} {b : Nat} {n : Int} (ok : gOk n) : gVr ad b (gI n) (.int (Int32.ofInt n)) := ⟨rfl, ok⟩
theorem gVr.mkL {ad : List Nat} {b : Nat} {n : Int} : gVr ad b (gL n) (.long (Int64.ofInt n)) := rfl
theorem gVr.mkN {ad : List Nat} {b : Nat} : gVr ad b (gN 0) .null := rfl
theorem gVr.mkR {ad : List Nat} {b k a : Nat} (h : ad[k]? = some a) : gVr ad b (gR k) (.ref a) := ⟨a, h, rfl⟩
theorem gSr.mk {ad : List Nat} {b : Nat} {v : GV} {w : Value} {S : List GV} {st : List Value} (hv : gVr ad b v w) (h : gSr ad b S st) : gSr ad b (v :: S) (w :: st) := ⟨hv, h⟩
theorem gWr.base {cA : Nat → ClassId} {a0 a1 ad : List Nat} {b : Nat} {sh : SH} {μ : MU} {ws : va_W} (h : gWr cA a0 ad b sh μ ws) (h1 : ∀ k a : Nat, a1[k]? = some a → ad[k]? = some a) : gWr cA a1 ad b sh μ ws := ⟨h.1, h.2.1, h.2.2.1, h1⟩
end
section
/-! ===== one step of the small machine is one row of the kit: locals, numbers, branches ===== -/
theorem gLd_0 {o : Option GV} {k : GV → Prop} (h : gLd 0 o k) : ∃ a, o = some (gI a) ∧ k (gI a) := by
  unfold gLd at h
  split at h
  · exact ⟨_, rfl, h⟩
  · rename_i q; exact absurd q (by decide)
  · rename_i q; exact absurd q (by decide)
  · rename_i q; exact absurd q (by decide)
  · rename_i q; exact absurd q (by decide)
  · exact h.elim
theorem gLd_1 {o : Option GV} {k : GV → Prop} (h : gLd 1 o k) : ∃ v, o = some v ∧ gTr v = true ∧ k v := by
  unfold gLd at h
  split at h
  · rename_i q; exact absurd q (by decide)
  · exact ⟨_, rfl, rfl, h⟩
  · exact ⟨_, rfl, rfl, h⟩
  · exact ⟨_, rfl, rfl, h⟩
  · rename_i q; exact absurd q (by decide)
  · exact h.elim
theorem gLd_2 {o : Option GV} {k : GV → Prop} (h : gLd 2 o k) : ∃ a, o = some (gL a) ∧ k (gL a) := by
  unfold gLd at h
  split at h
  · rename_i q; exact absurd q (by decide)
  · rename_i q; exact absurd q (by decide)
  · rename_i q; exact absurd q (by decide)
  · rename_i q; exact absurd q (by decide)
  · exact ⟨_, rfl, h⟩
  · exact h.elim
theorem gTr_of {ad : List Nat} {b : Nat} {v : GV} {w : Value} (ht : gTr v = true) (h : gVr ad b v w) : w = .null ∨ ∃ a, w = .ref a := by
  rcases v with n | k | n | k
  · cases ht
  · obtain ⟨a, -, rfl⟩ := h; exact Or.inr ⟨a, rfl⟩
  · cases ht
  · match k, h with
    | 0, h => exact Or.inl h
    | 1, h => exact Or.inr ⟨b, h⟩
theorem gTr_hv {v : GV} (ht : gTr v = true) : gHv v = true := by
  rcases v with n | k | n | k
  · cases ht
  · rfl
  · cases ht
  · exact ht
theorem g1_i {S : List GV} {k : Int → List GV → Prop} (h : g1 S k) : ∃ a S', S = gI a :: S' ∧ k a S' := by
  unfold g1 at h
  split at h
  · exact ⟨_, _, rfl, h⟩
  · exact h.elim
theorem g2_i {S : List GV} {k : Int → Int → List GV → Prop} (h : g2 S k) : ∃ a b S', S = gI b :: gI a :: S' ∧ k a b S' := by
  unfold g2 at h
  split at h
  · exact ⟨_, _, _, rfl, h⟩
  · exact h.elim
theorem gLl_i {S : List GV} {k : Int → Int → List GV → Prop} (h : gLl S k) : ∃ a b S', S = gL b :: gL a :: S' ∧ k a b S' := by
  unfold gLl at h
  split at h
  · exact ⟨_, _, _, rfl, h⟩
  · exact h.elim
theorem gRf_i {S : List GV} {k : Nat → List GV → Prop} (h : gRf S k) : ∃ a S', S = gR a :: S' ∧ k a S' := by
  unfold gRf at h
  split at h
  · exact ⟨_, _, rfl, h⟩
  · exact h.elim
theorem gCel_i {sh : SH} {a : Nat} {k : GC → Prop} (h : gCel sh a k) : ∃ c, sh[a]? = some c ∧ k c := by
  unfold gCel at h
  split at h
  · exact ⟨_, by assumption, h⟩
  · exact h.elim
theorem gSr.c1 {ad : List Nat} {b : Nat} {v : GV} {S : List GV} {st : List Value} (h : gSr ad b (v :: S) st) : ∃ w st', st = w :: st' ∧ gVr ad b v w ∧ gSr ad b S st' := by
  cases st with
  | nil => exact h.elim
  | cons w st' => exact ⟨w, st', rfl, h.1, h.2⟩
theorem gSr.i1 {ad : List Nat} {b : Nat} {n : Int} {S : List GV} {st : List Value} (h : gSr ad b (gI n :: S) st) : ∃ st', st = .int (Int32.ofInt n) :: st' ∧ gOk n ∧ gSr ad b S st' := by
  obtain ⟨w, st', rfl, ⟨rfl, h2⟩, h3⟩ := h.c1
  exact ⟨st', rfl, h2, h3⟩
theorem gSr.r1 {ad : List Nat} {b k : Nat} {S : List GV} {st : List Value} (h : gSr ad b (gR k :: S) st) : ∃ a st', st = .ref a :: st' ∧ ad[k]? = some a ∧ gSr ad b S st' := by
  obtain ⟨w, st', rfl, ⟨a, h1, rfl⟩, h3⟩ := h.c1
  exact ⟨a, st', rfl, h1, h3⟩
theorem gSr.l1 {ad : List Nat} {b : Nat} {n : Int} {S : List GV} {st : List Value} (h : gSr ad b (gL n :: S) st) : ∃ st', st = .long (Int64.ofInt n) :: st' ∧ gSr ad b S st' := by
  obtain ⟨w, st', rfl, h2, h3⟩ := h.c1
  exact ⟨st', by rw [show w = .long (Int64.ofInt n) from h2], h3⟩
theorem gSr.nil {ad : List Nat} {b : Nat} {st : List Value} (h : gSr ad b [] st) : st = [] := by
  cases st with
  | nil => rfl
  | cons w st' => exact h.elim
section GS
variable {p : Program} {l : Launch} {e : Env} {R : Room} {s : State} {m : MethodId} {args : Array Value} {below : List Frame} {meth : Method} {c : Code} {Qf : State → Prop}
variable {D : va_G} {cl : List vw_C} {cA : Nat → ClassId} {a0 : List Nat} {tys : List (ClassId × FieldType)} {A : Nat → Prop} {b MC MS : Nat} {cc : ByteArray}
def gSP (p : Program) (l : Launch) (e : Env) (R : Room) (s : State) (m : MethodId) (args : Array Value) (below : List Frame) (meth : Method) (c : Code) (Qf : State → Prop) (D : va_G) (cl : List vw_C) (cA : Nat → ClassId) (a0 : List Nat) (A : Nat → Prop) (b MC MS : Nat) : GP := fun pc L S sh μ mc ms =>
  ∀ (ad : List Nat) (ls : Array Slot) (st : List Value) (ws : va_W) (H : Heap) (locs : List Loc) (cells slots : Nat), c.maxLocals = L.length → gLr ad b L ls → gSr ad b S st → gWr cA a0 ad b sh μ ws → va_P D cl ws H → va_D A ws → va_S A s.heap H locs → cells + mc ≤ MC → slots + ms ≤ MS →
    W p l e R s m args below meth c H locs cells slots Qf (F0 m pc ls st)
variable {pc : Nat} {L S : List GV} {sh : SH} {μ : MU} {mc ms : Nat}
variable {P0 : GP}
theorem s_iload_n (hx : p.tables.exec = Jvm.exec) (hb : c.code = cc) {k : Fin 4} (hdg : decode cc pc = .ok (.iload_n k, 1)) (h0 : ∀ pc L S sh μ mc ms, P0 pc L S sh μ mc ms → gSP p l e R s m args below meth c Qf D cl cA a0 A b MC MS pc L S sh μ mc ms) (hs : gLd 0 L[(k : Nat)]? fun v => P0 (pc + 1) L (v :: S) sh μ mc ms) : gSP p l e R s m args below meth c Qf D cl cA a0 A b MC MS pc L S sh μ mc ms := by
  intro ad ls st ws H locs cells slots hnl hL hS hW hP hD hSf hc1 hc2
  obtain ⟨a, ha, hk⟩ := gLd_0 hs
  obtain ⟨w, hw, rfl, ok⟩ := hL.get ha rfl
  exact lv_iload_n hx hb hdg rfl hw (h0 _ _ _ _ _ _ _ hk ad ls _ ws H locs cells slots hnl hL (gSr.mk (gVr.mkI (ok)) hS) hW hP hD hSf hc1 hc2)
theorem s_iload (hx : p.tables.exec = Jvm.exec) (hb : c.code = cc) {k : Nat} (hdg : decode cc pc = .ok (.iload k, 2)) (h0 : ∀ pc L S sh μ mc ms, P0 pc L S sh μ mc ms → gSP p l e R s m args below meth c Qf D cl cA a0 A b MC MS pc L S sh μ mc ms) (hs : gLd 0 L[k]? fun v => P0 (pc + 2) L (v :: S) sh μ mc ms) : gSP p l e R s m args below meth c Qf D cl cA a0 A b MC MS pc L S sh μ mc ms := by
  intro ad ls st ws H locs cells slots hnl hL hS hW hP hD hSf hc1 hc2
  obtain ⟨a, ha, hk⟩ := gLd_0 hs
  obtain ⟨w, hw, rfl, ok⟩ := hL.get ha rfl
  exact lv_iload hx hb hdg hw (h0 _ _ _ _ _ _ _ hk ad ls _ ws H locs cells slots hnl hL (gSr.mk (gVr.mkI (ok)) hS) hW hP hD hSf hc1 hc2)
theorem s_lload_n (hx : p.tables.exec = Jvm.exec) (hb : c.code = cc) {k : Fin 4} (hdg : decode cc pc = .ok (.lload_n k, 1)) (h0 : ∀ pc L S sh μ mc ms, P0 pc L S sh μ mc ms → gSP p l e R s m args below meth c Qf D cl cA a0 A b MC MS pc L S sh μ mc ms) (hs : gLd 2 L[(k : Nat)]? fun v => P0 (pc + 1) L (v :: S) sh μ mc ms) : gSP p l e R s m args below meth c Qf D cl cA a0 A b MC MS pc L S sh μ mc ms := by
  intro ad ls st ws H locs cells slots hnl hL hS hW hP hD hSf hc1 hc2
  obtain ⟨a, ha, hk⟩ := gLd_2 hs
  obtain ⟨w, hw, hr⟩ := hL.get ha rfl
  rw [show w = .long (Int64.ofInt a) from hr] at hw
  exact lv_lload_n hx hb hdg rfl hw (h0 _ _ _ _ _ _ _ hk ad ls _ ws H locs cells slots hnl hL (gSr.mk gVr.mkL hS) hW hP hD hSf hc1 hc2)
theorem s_lload (hx : p.tables.exec = Jvm.exec) (hb : c.code = cc) {k : Nat} (hdg : decode cc pc = .ok (.lload k, 2)) (h0 : ∀ pc L S sh μ mc ms, P0 pc L S sh μ mc ms → gSP p l e R s m args below meth c Qf D cl cA a0 A b MC MS pc L S sh μ mc ms) (hs : gLd 2 L[k]? fun v => P0 (pc + 2) L (v :: S) sh μ mc ms) : gSP p l e R s m args below meth c Qf D cl cA a0 A b MC MS pc L S sh μ mc ms := by
  intro ad ls st ws H locs cells slots hnl hL hS hW hP hD hSf hc1 hc2
  obtain ⟨a, ha, hk⟩ := gLd_2 hs
  obtain ⟨w, hw, hr⟩ := hL.get ha rfl
  rw [show w = .long (Int64.ofInt a) from hr] at hw
  exact lv_lload hx hb hdg hw (h0 _ _ _ _ _ _ _ hk ad ls _ ws H locs cells slots hnl hL (gSr.mk gVr.mkL hS) hW hP hD hSf hc1 hc2)
theorem s_aload_n (hx : p.tables.exec = Jvm.exec) (hb : c.code = cc) {k : Fin 4} (hdg : decode cc pc = .ok (.aload_n k, 1)) (h0 : ∀ pc L S sh μ mc ms, P0 pc L S sh μ mc ms → gSP p l e R s m args below meth c Qf D cl cA a0 A b MC MS pc L S sh μ mc ms) (hs : gLd 1 L[(k : Nat)]? fun v => P0 (pc + 1) L (v :: S) sh μ mc ms) : gSP p l e R s m args below meth c Qf D cl cA a0 A b MC MS pc L S sh μ mc ms := by
  intro ad ls st ws H locs cells slots hnl hL hS hW hP hD hSf hc1 hc2
  obtain ⟨v, ha, ht, hk⟩ := gLd_1 hs
  obtain ⟨w, hw, hr⟩ := hL.get ha (gTr_hv ht)
  rcases gTr_of ht hr with rfl | ⟨a, rfl⟩
  · exact lv_aload_nN hx hb hdg rfl hw (h0 _ _ _ _ _ _ _ hk ad ls _ ws H locs cells slots hnl hL ⟨hr, hS⟩ hW hP hD hSf hc1 hc2)
  · exact lv_aload_n hx hb hdg rfl hw (h0 _ _ _ _ _ _ _ hk ad ls _ ws H locs cells slots hnl hL ⟨hr, hS⟩ hW hP hD hSf hc1 hc2)
theorem s_aload (hx : p.tables.exec = Jvm.exec) (hb : c.code = cc) {k : Nat} (hdg : decode cc pc = .ok (.aload k, 2)) (h0 : ∀ pc L S sh μ mc ms, P0 pc L S sh μ mc ms → gSP p l e R s m args below meth c Qf D cl cA a0 A b MC MS pc L S sh μ mc ms) (hs : gLd 1 L[k]? fun v => P0 (pc + 2) L (v :: S) sh μ mc ms) : gSP p l e R s m args below meth c Qf D cl cA a0 A b MC MS pc L S sh μ mc ms := by
  intro ad ls st ws H locs cells slots hnl hL hS hW hP hD hSf hc1 hc2
  obtain ⟨v, ha, ht, hk⟩ := gLd_1 hs
  obtain ⟨w, hw, hr⟩ := hL.get ha (gTr_hv ht)
  rcases gTr_of ht hr with rfl | ⟨a, rfl⟩
  · exact lv_aloadN hx hb hdg hw (h0 _ _ _ _ _ _ _ hk ad ls _ ws H locs cells slots hnl hL ⟨hr, hS⟩ hW hP hD hSf hc1 hc2)
  · exact lv_aload hx hb hdg hw (h0 _ _ _ _ _ _ _ hk ad ls _ ws H locs cells slots hnl hL ⟨hr, hS⟩ hW hP hD hSf hc1 hc2)
theorem gSt_i {L : List GV} {i : Nat} {v : GV} {k : List GV → Prop} (h : gSt L i v k) : i < L.length ∧ gNoL L i = true ∧ k (L.set i v) := by
  obtain ⟨h1, h2⟩ := gIs_t h
  rw [Bool.and_eq_true] at h1
  exact ⟨Nat.le_of_ble_eq_true h1.1, h1.2, h2⟩
theorem gSt2_i {L : List GV} {i : Nat} {v : GV} {k : List GV → Prop} (h : gSt2 L i v k) : i + 1 < L.length ∧ gNoL L i = true ∧ k ((L.set i v).set (i + 1) (gN 2)) := by
  obtain ⟨h1, h2⟩ := gIs_t h
  rw [Bool.and_eq_true] at h1
  exact ⟨Nat.le_of_ble_eq_true h1.1, h1.2, h2⟩
theorem s_istore_n (hx : p.tables.exec = Jvm.exec) (hb : c.code = cc) {k : Fin 4} (hdg : decode cc pc = .ok (.istore_n k, 1)) (h0 : ∀ pc L S sh μ mc ms, P0 pc L S sh μ mc ms → gSP p l e R s m args below meth c Qf D cl cA a0 A b MC MS pc L S sh μ mc ms) (hs : g1 S fun a S' => gSt L k (gI a) fun L' => P0 (pc + 1) L' S' sh μ mc ms) : gSP p l e R s m args below meth c Qf D cl cA a0 A b MC MS pc L S sh μ mc ms := by
  intro ad ls st ws H locs cells slots hnl hL hS hW hP hD hSf hc1 hc2
  obtain ⟨a, S', rfl, hs1⟩ := g1_i hs
  obtain ⟨hi, hn, hk⟩ := gSt_i hs1
  obtain ⟨st, rfl, ok, hS1⟩ := hS.i1
  obtain ⟨lv, hl, hlv⟩ := hL
  exact lv_istore_n hx hb hdg rfl hl hi rfl fun ls' hl' => h0 _ _ _ _ _ _ _ hk ad ls' _ ws H locs cells slots (by rw [List.length_set]; exact hnl) (hlv.set hi hn (gVr.mkI ok) hl') hS1 hW hP hD hSf hc1 hc2
theorem s_istore (hx : p.tables.exec = Jvm.exec) (hb : c.code = cc) {k : Nat} (hdg : decode cc pc = .ok (.istore k, 2)) (h0 : ∀ pc L S sh μ mc ms, P0 pc L S sh μ mc ms → gSP p l e R s m args below meth c Qf D cl cA a0 A b MC MS pc L S sh μ mc ms) (hs : g1 S fun a S' => gSt L k (gI a) fun L' => P0 (pc + 2) L' S' sh μ mc ms) : gSP p l e R s m args below meth c Qf D cl cA a0 A b MC MS pc L S sh μ mc ms := by
  intro ad ls st ws H locs cells slots hnl hL hS hW hP hD hSf hc1 hc2
  obtain ⟨a, S', rfl, hs1⟩ := g1_i hs
  obtain ⟨hi, hn, hk⟩ := gSt_i hs1
  obtain ⟨st, rfl, ok, hS1⟩ := hS.i1
  obtain ⟨lv, hl, hlv⟩ := hL
  exact lv_istore hx hb hdg hl hi rfl fun ls' hl' => h0 _ _ _ _ _ _ _ hk ad ls' _ ws H locs cells slots (by rw [List.length_set]; exact hnl) (hlv.set hi hn (gVr.mkI ok) hl') hS1 hW hP hD hSf hc1 hc2
theorem s_astore_n (hx : p.tables.exec = Jvm.exec) (hb : c.code = cc) {k : Fin 4} (hdg : decode cc pc = .ok (.astore_n k, 1)) (h0 : ∀ pc L S sh μ mc ms, P0 pc L S sh μ mc ms → gSP p l e R s m args below meth c Qf D cl cA a0 A b MC MS pc L S sh μ mc ms) {v : GV} (hs : gIs (gTr v) (gSt L k v fun L' => P0 (pc + 1) L' S sh μ mc ms)) : gSP p l e R s m args below meth c Qf D cl cA a0 A b MC MS pc L (v :: S) sh μ mc ms := by
  intro ad ls st ws H locs cells slots hnl hL hS hW hP hD hSf hc1 hc2
  obtain ⟨ht, hs1⟩ := gIs_t hs
  obtain ⟨hi, hn, hk⟩ := gSt_i hs1
  obtain ⟨w, st, rfl, hr, hS1⟩ := hS.c1
  obtain ⟨lv, hl, hlv⟩ := hL
  rcases gTr_of ht hr with rfl | ⟨a, rfl⟩
  · exact lv_astore_nN hx hb hdg rfl hl hi rfl fun ls' hl' => h0 _ _ _ _ _ _ _ hk ad ls' _ ws H locs cells slots (by rw [List.length_set]; exact hnl) (hlv.set hi hn hr hl') hS1 hW hP hD hSf hc1 hc2
  · exact lv_astore_n hx hb hdg rfl hl hi rfl fun ls' hl' => h0 _ _ _ _ _ _ _ hk ad ls' _ ws H locs cells slots (by rw [List.length_set]; exact hnl) (hlv.set hi hn hr hl') hS1 hW hP hD hSf hc1 hc2
theorem s_lstore_n (hx : p.tables.exec = Jvm.exec) (hb : c.code = cc) {k : Fin 4} (hdg : decode cc pc = .ok (.lstore_n k, 1)) (h0 : ∀ pc L S sh μ mc ms, P0 pc L S sh μ mc ms → gSP p l e R s m args below meth c Qf D cl cA a0 A b MC MS pc L S sh μ mc ms) {n : Int} (hs : gSt2 L k (gL n) fun L' => P0 (pc + 1) L' S sh μ mc ms) : gSP p l e R s m args below meth c Qf D cl cA a0 A b MC MS pc L (gL n :: S) sh μ mc ms := by
  intro ad ls st ws H locs cells slots hnl hL hS hW hP hD hSf hc1 hc2
  obtain ⟨hi, hn, hk⟩ := gSt2_i hs
  obtain ⟨st, rfl, hS1⟩ := hS.l1
  obtain ⟨lv, hl, hlv⟩ := hL
  exact lv_lstore_n hx hb hdg rfl hl hi rfl fun ls' hl' => h0 _ _ _ _ _ _ _ hk ad ls' _ ws H locs cells slots (by rw [List.length_set, List.length_set]; exact hnl) (hlv.set2 hi hn (show gVr ad b (gL n) (.long (Int64.ofInt n)) from rfl) hl') hS1 hW hP hD hSf hc1 hc2
theorem s_iinc (hx : p.tables.exec = Jvm.exec) (hb : c.code = cc) {k : Nat} {n a : Int} (hdg : decode cc pc = .ok (.iinc k n, 3)) (h0 : ∀ pc L S sh μ mc ms, P0 pc L S sh μ mc ms → gSP p l e R s m args below meth c Qf D cl cA a0 A b MC MS pc L S sh μ mc ms) (ha : L[k]? = some (gI a)) (hs : gOk (a + n) ∧ gSt L k (gI (a + n)) fun L' => P0 (pc + 3) L' S sh μ mc ms) : gSP p l e R s m args below meth c Qf D cl cA a0 A b MC MS pc L S sh μ mc ms := by
  intro ad ls st ws H locs cells slots hnl hL hS hW hP hD hSf hc1 hc2
  obtain ⟨ok, hs⟩ := hs
  obtain ⟨hi, hn, hk⟩ := gSt_i hs
  obtain ⟨lv, hl, hlv⟩ := hL
  obtain ⟨w, hw, rfl, oka⟩ := hlv k (gI a) ha rfl
  obtain ⟨j, hj⟩ := List.getElem?_of_mem hw
  exact lv_iinc hx hb hdg hl hj (Int32.ofInt_add a n).symm hi rfl fun ls' hl' => h0 _ _ _ _ _ _ _ hk ad ls' _ ws H locs cells slots (by rw [List.length_set]; exact hnl) (hlv.set hi hn (gVr.mkI ok) hl') hS hW hP hD hSf hc1 hc2
theorem s_iconst (hx : p.tables.exec = Jvm.exec) (hb : c.code = cc) {n : Int} (hdg : decode cc pc = .ok (.iconst n, 1)) (h0 : ∀ pc L S sh μ mc ms, P0 pc L S sh μ mc ms → gSP p l e R s m args below meth c Qf D cl cA a0 A b MC MS pc L S sh μ mc ms) (ok : gOk n) (hk : P0 (pc + 1) L (gI n :: S) sh μ mc ms) : gSP p l e R s m args below meth c Qf D cl cA a0 A b MC MS pc L S sh μ mc ms := by
  intro ad ls st ws H locs cells slots hnl hL hS hW hP hD hSf hc1 hc2
  exact lv_iconst hx hb hdg rfl (h0 _ _ _ _ _ _ _ hk ad ls _ ws H locs cells slots hnl hL (gSr.mk (gVr.mkI (ok)) hS) hW hP hD hSf hc1 hc2)
theorem s_bipush (hx : p.tables.exec = Jvm.exec) (hb : c.code = cc) {n : Int} (hdg : decode cc pc = .ok (.bipush n, 2)) (h0 : ∀ pc L S sh μ mc ms, P0 pc L S sh μ mc ms → gSP p l e R s m args below meth c Qf D cl cA a0 A b MC MS pc L S sh μ mc ms) (h1 : -128 ≤ n) (h2 : n < 128) (hk : P0 (pc + 2) L (gI n :: S) sh μ mc ms) : gSP p l e R s m args below meth c Qf D cl cA a0 A b MC MS pc L S sh μ mc ms := by
  intro ad ls st ws H locs cells slots hnl hL hS hW hP hD hSf hc1 hc2
  have ok : gOk n := ⟨by omega, by omega⟩
  refine lv_bipush (v := Int32.ofInt n) hx hb hdg ?_ (h0 _ _ _ _ _ _ _ hk ad ls _ ws H locs cells slots hnl hL (gSr.mk (gVr.mkI (ok)) hS) hW hP hD hSf hc1 hc2)
  rw [← Int32.toInt_inj, g_toInt ok, Int8.toInt_toInt32, Int8.toInt_ofInt_of_le (by omega) (by omega)]
theorem s_sipush (hx : p.tables.exec = Jvm.exec) (hb : c.code = cc) {n : Int} (hdg : decode cc pc = .ok (.sipush n, 3)) (h0 : ∀ pc L S sh μ mc ms, P0 pc L S sh μ mc ms → gSP p l e R s m args below meth c Qf D cl cA a0 A b MC MS pc L S sh μ mc ms) (h1 : -32768 ≤ n) (h2 : n < 32768) (hk : P0 (pc + 3) L (gI n :: S) sh μ mc ms) : gSP p l e R s m args below meth c Qf D cl cA a0 A b MC MS pc L S sh μ mc ms := by
  intro ad ls st ws H locs cells slots hnl hL hS hW hP hD hSf hc1 hc2
  have ok : gOk n := ⟨by omega, by omega⟩
  refine lv_sipush (v := Int32.ofInt n) hx hb hdg ?_ (h0 _ _ _ _ _ _ _ hk ad ls _ ws H locs cells slots hnl hL (gSr.mk (gVr.mkI (ok)) hS) hW hP hD hSf hc1 hc2)
  rw [← Int32.toInt_inj, g_toInt ok, Int16.toInt_toInt32, Int16.toInt_ofInt_of_le (by omega) (by omega)]
theorem s_ldc (hx : p.tables.exec = Jvm.exec) (hb : c.code = cc) {own : String} {k : Nat} {n : Int} (hown : s.vm.findClass own = some m.cls) (hw : (Jvm.Cond.constant own k (Int32.ofInt n)).before args s = true) (hdg : decode cc pc = .ok (.ldc k, 2)) (h0 : ∀ pc L S sh μ mc ms, P0 pc L S sh μ mc ms → gSP p l e R s m args below meth c Qf D cl cA a0 A b MC MS pc L S sh μ mc ms) (ok : gOk n) (hk : P0 (pc + 2) L (gI n :: S) sh μ mc ms) : gSP p l e R s m args below meth c Qf D cl cA a0 A b MC MS pc L S sh μ mc ms := by
  intro ad ls st ws H locs cells slots hnl hL hS hW hP hD hSf hc1 hc2
  exact lv_ldc hx hb hown hw hdg (h0 _ _ _ _ _ _ _ hk ad ls _ ws H locs cells slots hnl hL (gSr.mk (gVr.mkI (ok)) hS) hW hP hD hSf hc1 hc2)
theorem s_ldc2 (hx : p.tables.exec = Jvm.exec) (hb : c.code = cc) {own : String} {k : Nat} {n : Int} (hown : s.vm.findClass own = some m.cls) (hw : (Jvm.Cond.constantLong own k (Int64.ofInt n)).before args s = true) (hdg : decode cc pc = .ok (.ldc2_w k, 3)) (h0 : ∀ pc L S sh μ mc ms, P0 pc L S sh μ mc ms → gSP p l e R s m args below meth c Qf D cl cA a0 A b MC MS pc L S sh μ mc ms) (hk : P0 (pc + 3) L (gL n :: S) sh μ mc ms) : gSP p l e R s m args below meth c Qf D cl cA a0 A b MC MS pc L S sh μ mc ms := by
  intro ad ls st ws H locs cells slots hnl hL hS hW hP hD hSf hc1 hc2
  exact lv_ldc2 hx hb hown hw hdg (h0 _ _ _ _ _ _ _ hk ad ls _ ws H locs cells slots hnl hL (gSr.mk gVr.mkL hS) hW hP hD hSf hc1 hc2)
theorem s_null (hx : p.tables.exec = Jvm.exec) (hb : c.code = cc) (hdg : decode cc pc = .ok (.aconst_null, 1)) (h0 : ∀ pc L S sh μ mc ms, P0 pc L S sh μ mc ms → gSP p l e R s m args below meth c Qf D cl cA a0 A b MC MS pc L S sh μ mc ms) (hk : P0 (pc + 1) L (gN 0 :: S) sh μ mc ms) : gSP p l e R s m args below meth c Qf D cl cA a0 A b MC MS pc L S sh μ mc ms := by
  intro ad ls st ws H locs cells slots hnl hL hS hW hP hD hSf hc1 hc2
  exact lv_null hx hb hdg (h0 _ _ _ _ _ _ _ hk ad ls _ ws H locs cells slots hnl hL (gSr.mk gVr.mkN hS) hW hP hD hSf hc1 hc2)
theorem s_dup (hx : p.tables.exec = Jvm.exec) (hb : c.code = cc) (hdg : decode cc pc = .ok (.dup, 1)) (h0 : ∀ pc L S sh μ mc ms, P0 pc L S sh μ mc ms → gSP p l e R s m args below meth c Qf D cl cA a0 A b MC MS pc L S sh μ mc ms) {v : GV} (hs : gIs (gC1 v) (P0 (pc + 1) L (v :: v :: S) sh μ mc ms)) : gSP p l e R s m args below meth c Qf D cl cA a0 A b MC MS pc L (v :: S) sh μ mc ms := by
  intro ad ls st ws H locs cells slots hnl hL hS hW hP hD hSf hc1 hc2
  obtain ⟨ht, hk⟩ := gIs_t hs
  obtain ⟨w, st, rfl, hr, hS1⟩ := hS.c1
  exact lv_dup hx hb hdg (hr.cat ht) (h0 _ _ _ _ _ _ _ hk ad ls _ ws H locs cells slots hnl hL ⟨hr, hr, hS1⟩ hW hP hD hSf hc1 hc2)
theorem s_dup2 (hx : p.tables.exec = Jvm.exec) (hb : c.code = cc) (hdg : decode cc pc = .ok (.dup2, 1)) (h0 : ∀ pc L S sh μ mc ms, P0 pc L S sh μ mc ms → gSP p l e R s m args below meth c Qf D cl cA a0 A b MC MS pc L S sh μ mc ms) {v u : GV} (hs : gIs (gC1 v && gC1 u) (P0 (pc + 1) L (v :: u :: v :: u :: S) sh μ mc ms)) : gSP p l e R s m args below meth c Qf D cl cA a0 A b MC MS pc L (v :: u :: S) sh μ mc ms := by
  intro ad ls st ws H locs cells slots hnl hL hS hW hP hD hSf hc1 hc2
  obtain ⟨ht, hk⟩ := gIs_t hs
  rw [Bool.and_eq_true] at ht
  obtain ⟨w, st, rfl, hr, hS1⟩ := hS.c1
  obtain ⟨w2, st, rfl, hr2, hS2⟩ := hS1.c1
  exact lv_dup2_11 hx hb hdg (hr.cat ht.1) (hr2.cat ht.2) (h0 _ _ _ _ _ _ _ hk ad ls _ ws H locs cells slots hnl hL ⟨hr, hr2, hr, hr2, hS2⟩ hW hP hD hSf hc1 hc2)
theorem s_pop (hx : p.tables.exec = Jvm.exec) (hb : c.code = cc) (hdg : decode cc pc = .ok (.pop, 1)) (h0 : ∀ pc L S sh μ mc ms, P0 pc L S sh μ mc ms → gSP p l e R s m args below meth c Qf D cl cA a0 A b MC MS pc L S sh μ mc ms) {v : GV} (hs : gIs (gC1 v) (P0 (pc + 1) L S sh μ mc ms)) : gSP p l e R s m args below meth c Qf D cl cA a0 A b MC MS pc L (v :: S) sh μ mc ms := by
  intro ad ls st ws H locs cells slots hnl hL hS hW hP hD hSf hc1 hc2
  obtain ⟨ht, hk⟩ := gIs_t hs
  obtain ⟨w, st, rfl, hr, hS1⟩ := hS.c1
  exact lv_pop hx hb hdg (hr.cat ht) (h0 _ _ _ _ _ _ _ hk ad ls _ ws H locs cells slots hnl hL hS1 hW hP hD hSf hc1 hc2)
theorem s_iadd (hx : p.tables.exec = Jvm.exec) (hb : c.code = cc) (hdg : decode cc pc = .ok (.iadd, 1)) (h0 : ∀ pc L S sh μ mc ms, P0 pc L S sh μ mc ms → gSP p l e R s m args below meth c Qf D cl cA a0 A b MC MS pc L S sh μ mc ms) (hs : g2 S fun a b S' => gOk (a + b) ∧ P0 (pc + 1) L (gI (a + b) :: S') sh μ mc ms) : gSP p l e R s m args below meth c Qf D cl cA a0 A b MC MS pc L S sh μ mc ms := by
  intro ad ls st ws H locs cells slots hnl hL hS hW hP hD hSf hc1 hc2
  obtain ⟨a, d, S', rfl, ok, hk⟩ := g2_i hs
  obtain ⟨st, rfl, ok1, hS1⟩ := hS.i1
  obtain ⟨st, rfl, ok2, hS2⟩ := hS1.i1
  have q := (h0 _ _ _ _ _ _ _ hk ad ls _ ws H locs cells slots hnl hL (gSr.mk (gVr.mkI (ok)) hS2) hW hP hD hSf hc1 hc2)
  rw [Int32.ofInt_add] at q
  exact lv_iadd hx hb hdg q
theorem s_isub (hx : p.tables.exec = Jvm.exec) (hb : c.code = cc) (hdg : decode cc pc = .ok (.isub, 1)) (h0 : ∀ pc L S sh μ mc ms, P0 pc L S sh μ mc ms → gSP p l e R s m args below meth c Qf D cl cA a0 A b MC MS pc L S sh μ mc ms) (hs : g2 S fun a b S' => gOk (a - b) ∧ P0 (pc + 1) L (gI (a - b) :: S') sh μ mc ms) : gSP p l e R s m args below meth c Qf D cl cA a0 A b MC MS pc L S sh μ mc ms := by
  intro ad ls st ws H locs cells slots hnl hL hS hW hP hD hSf hc1 hc2
  obtain ⟨a, d, S', rfl, ok, hk⟩ := g2_i hs
  obtain ⟨st, rfl, ok1, hS1⟩ := hS.i1
  obtain ⟨st, rfl, ok2, hS2⟩ := hS1.i1
  have q := (h0 _ _ _ _ _ _ _ hk ad ls _ ws H locs cells slots hnl hL (gSr.mk (gVr.mkI (ok)) hS2) hW hP hD hSf hc1 hc2)
  rw [Int32.ofInt_sub] at q
  exact lv_isub hx hb hdg q
theorem s_imul (hx : p.tables.exec = Jvm.exec) (hb : c.code = cc) (hdg : decode cc pc = .ok (.imul, 1)) (h0 : ∀ pc L S sh μ mc ms, P0 pc L S sh μ mc ms → gSP p l e R s m args below meth c Qf D cl cA a0 A b MC MS pc L S sh μ mc ms) (hs : g2 S fun a b S' => gOk (a * b) ∧ P0 (pc + 1) L (gI (a * b) :: S') sh μ mc ms) : gSP p l e R s m args below meth c Qf D cl cA a0 A b MC MS pc L S sh μ mc ms := by
  intro ad ls st ws H locs cells slots hnl hL hS hW hP hD hSf hc1 hc2
  obtain ⟨a, d, S', rfl, ok, hk⟩ := g2_i hs
  obtain ⟨st, rfl, ok1, hS1⟩ := hS.i1
  obtain ⟨st, rfl, ok2, hS2⟩ := hS1.i1
  have q := (h0 _ _ _ _ _ _ _ hk ad ls _ ws H locs cells slots hnl hL (gSr.mk (gVr.mkI (ok)) hS2) hW hP hD hSf hc1 hc2)
  rw [Int32.ofInt_mul] at q
  exact lv_imul hx hb hdg q
theorem s_iand (hx : p.tables.exec = Jvm.exec) (hb : c.code = cc) (hdg : decode cc pc = .ok (.iand, 1)) (h0 : ∀ pc L S sh μ mc ms, P0 pc L S sh μ mc ms → gSP p l e R s m args below meth c Qf D cl cA a0 A b MC MS pc L S sh μ mc ms) (hs : g2 S fun a b S' => P0 (pc + 1) L (gI (gAnd a b) :: S') sh μ mc ms) : gSP p l e R s m args below meth c Qf D cl cA a0 A b MC MS pc L S sh μ mc ms := by
  intro ad ls st ws H locs cells slots hnl hL hS hW hP hD hSf hc1 hc2
  obtain ⟨a, d, S', rfl, hk⟩ := g2_i hs
  obtain ⟨st, rfl, ok1, hS1⟩ := hS.i1
  obtain ⟨st, rfl, ok2, hS2⟩ := hS1.i1
  have q := (h0 _ _ _ _ _ _ _ hk ad ls _ ws H locs cells slots hnl hL (gSr.mk (gVr.mkI (g_rng _)) hS2) hW hP hD hSf hc1 hc2)
  rw [gAnd, Int32.ofInt_toInt] at q
  exact lv_iand hx hb hdg q
theorem s_ior (hx : p.tables.exec = Jvm.exec) (hb : c.code = cc) (hdg : decode cc pc = .ok (.ior, 1)) (h0 : ∀ pc L S sh μ mc ms, P0 pc L S sh μ mc ms → gSP p l e R s m args below meth c Qf D cl cA a0 A b MC MS pc L S sh μ mc ms) (hs : g2 S fun a b S' => P0 (pc + 1) L (gI (gOr a b) :: S') sh μ mc ms) : gSP p l e R s m args below meth c Qf D cl cA a0 A b MC MS pc L S sh μ mc ms := by
  intro ad ls st ws H locs cells slots hnl hL hS hW hP hD hSf hc1 hc2
  obtain ⟨a, d, S', rfl, hk⟩ := g2_i hs
  obtain ⟨st, rfl, ok1, hS1⟩ := hS.i1
  obtain ⟨st, rfl, ok2, hS2⟩ := hS1.i1
  have q := (h0 _ _ _ _ _ _ _ hk ad ls _ ws H locs cells slots hnl hL (gSr.mk (gVr.mkI (g_rng _)) hS2) hW hP hD hSf hc1 hc2)
  rw [gOr, Int32.ofInt_toInt] at q
  exact lv_ior hx hb hdg q
theorem s_ishl (hx : p.tables.exec = Jvm.exec) (hb : c.code = cc) (hdg : decode cc pc = .ok (.ishl, 1)) (h0 : ∀ pc L S sh μ mc ms, P0 pc L S sh μ mc ms → gSP p l e R s m args below meth c Qf D cl cA a0 A b MC MS pc L S sh μ mc ms) (hs : g2 S fun a b S' => P0 (pc + 1) L (gI (gShl a b) :: S') sh μ mc ms) : gSP p l e R s m args below meth c Qf D cl cA a0 A b MC MS pc L S sh μ mc ms := by
  intro ad ls st ws H locs cells slots hnl hL hS hW hP hD hSf hc1 hc2
  obtain ⟨a, d, S', rfl, hk⟩ := g2_i hs
  obtain ⟨st, rfl, ok1, hS1⟩ := hS.i1
  obtain ⟨st, rfl, ok2, hS2⟩ := hS1.i1
  have q := (h0 _ _ _ _ _ _ _ hk ad ls _ ws H locs cells slots hnl hL (gSr.mk (gVr.mkI (g_rng _)) hS2) hW hP hD hSf hc1 hc2)
  rw [gShl, Int32.ofInt_toInt] at q
  exact lv_ishl hx hb hdg q
theorem s_ishr (hx : p.tables.exec = Jvm.exec) (hb : c.code = cc) (hdg : decode cc pc = .ok (.ishr, 1)) (h0 : ∀ pc L S sh μ mc ms, P0 pc L S sh μ mc ms → gSP p l e R s m args below meth c Qf D cl cA a0 A b MC MS pc L S sh μ mc ms) (hs : g2 S fun a b S' => P0 (pc + 1) L (gI (gShr a b) :: S') sh μ mc ms) : gSP p l e R s m args below meth c Qf D cl cA a0 A b MC MS pc L S sh μ mc ms := by
  intro ad ls st ws H locs cells slots hnl hL hS hW hP hD hSf hc1 hc2
  obtain ⟨a, d, S', rfl, hk⟩ := g2_i hs
  obtain ⟨st, rfl, ok1, hS1⟩ := hS.i1
  obtain ⟨st, rfl, ok2, hS2⟩ := hS1.i1
  have q := (h0 _ _ _ _ _ _ _ hk ad ls _ ws H locs cells slots hnl hL (gSr.mk (gVr.mkI (g_rng _)) hS2) hW hP hD hSf hc1 hc2)
  rw [gShr, Int32.ofInt_toInt] at q
  exact lv_ishr hx hb hdg q
theorem s_idiv (hx : p.tables.exec = Jvm.exec) (hb : c.code = cc) (hdg : decode cc pc = .ok (.idiv, 1)) (h0 : ∀ pc L S sh μ mc ms, P0 pc L S sh μ mc ms → gSP p l e R s m args below meth c Qf D cl cA a0 A b MC MS pc L S sh μ mc ms) (hs : g2 S fun a b S' => b ≠ 0 ∧ gOk b ∧ P0 (pc + 1) L (gI (gDiv a b) :: S') sh μ mc ms) : gSP p l e R s m args below meth c Qf D cl cA a0 A b MC MS pc L S sh μ mc ms := by
  intro ad ls st ws H locs cells slots hnl hL hS hW hP hD hSf hc1 hc2
  obtain ⟨a, d, S', rfl, hz, -, hk⟩ := g2_i hs
  obtain ⟨st, rfl, ok1, hS1⟩ := hS.i1
  obtain ⟨st, rfl, ok2, hS2⟩ := hS1.i1
  have q := (h0 _ _ _ _ _ _ _ hk ad ls _ ws H locs cells slots hnl hL (gSr.mk (gVr.mkI (g_rng _)) hS2) hW hP hD hSf hc1 hc2)
  rw [gDiv, Int32.ofInt_toInt] at q
  exact lv_idiv hx hb hdg (fun z => hz (by rw [← g_toInt ok1, z]; rfl)) q
theorem s_irem (hx : p.tables.exec = Jvm.exec) (hb : c.code = cc) (hdg : decode cc pc = .ok (.irem, 1)) (h0 : ∀ pc L S sh μ mc ms, P0 pc L S sh μ mc ms → gSP p l e R s m args below meth c Qf D cl cA a0 A b MC MS pc L S sh μ mc ms) (hs : g2 S fun a b S' => b ≠ 0 ∧ gOk b ∧ P0 (pc + 1) L (gI (gRem a b) :: S') sh μ mc ms) : gSP p l e R s m args below meth c Qf D cl cA a0 A b MC MS pc L S sh μ mc ms := by
  intro ad ls st ws H locs cells slots hnl hL hS hW hP hD hSf hc1 hc2
  obtain ⟨a, d, S', rfl, hz, -, hk⟩ := g2_i hs
  obtain ⟨st, rfl, ok1, hS1⟩ := hS.i1
  obtain ⟨st, rfl, ok2, hS2⟩ := hS1.i1
  have q := (h0 _ _ _ _ _ _ _ hk ad ls _ ws H locs cells slots hnl hL (gSr.mk (gVr.mkI (g_rng _)) hS2) hW hP hD hSf hc1 hc2)
  rw [gRem, Int32.ofInt_toInt] at q
  exact lv_irem hx hb hdg (fun z => hz (by rw [← g_toInt ok1, z]; rfl)) q
theorem s_ineg (hx : p.tables.exec = Jvm.exec) (hb : c.code = cc) (hdg : decode cc pc = .ok (.ineg, 1)) (h0 : ∀ pc L S sh μ mc ms, P0 pc L S sh μ mc ms → gSP p l e R s m args below meth c Qf D cl cA a0 A b MC MS pc L S sh μ mc ms) (hs : g1 S fun a S' => gOk (-a) ∧ P0 (pc + 1) L (gI (-a) :: S') sh μ mc ms) : gSP p l e R s m args below meth c Qf D cl cA a0 A b MC MS pc L S sh μ mc ms := by
  intro ad ls st ws H locs cells slots hnl hL hS hW hP hD hSf hc1 hc2
  obtain ⟨a, S', rfl, ok, hk⟩ := g1_i hs
  obtain ⟨st, rfl, ok1, hS1⟩ := hS.i1
  have q := (h0 _ _ _ _ _ _ _ hk ad ls _ ws H locs cells slots hnl hL (gSr.mk (gVr.mkI (ok)) hS1) hW hP hD hSf hc1 hc2)
  rw [Int32.ofInt_neg] at q
  exact lv_ineg hx hb hdg q
theorem s_i2l (hx : p.tables.exec = Jvm.exec) (hb : c.code = cc) (hdg : decode cc pc = .ok (.i2l, 1)) (h0 : ∀ pc L S sh μ mc ms, P0 pc L S sh μ mc ms → gSP p l e R s m args below meth c Qf D cl cA a0 A b MC MS pc L S sh μ mc ms) (hs : g1 S fun a S' => P0 (pc + 1) L (gL a :: S') sh μ mc ms) : gSP p l e R s m args below meth c Qf D cl cA a0 A b MC MS pc L S sh μ mc ms := by
  intro ad ls st ws H locs cells slots hnl hL hS hW hP hD hSf hc1 hc2
  obtain ⟨a, S', rfl, hk⟩ := g1_i hs
  obtain ⟨st, rfl, ok1, hS1⟩ := hS.i1
  exact lv_i2l hx hb hdg (Int32.toInt64_ofInt (by have := ok1.1; rw [show Int32.minValue.toInt = -2147483648 by decide]; omega) (by have := ok1.2; rw [show Int32.maxValue.toInt = 2147483647 by decide]; omega)) (h0 _ _ _ _ _ _ _ hk ad ls _ ws H locs cells slots hnl hL (gSr.mk gVr.mkL hS1) hW hP hD hSf hc1 hc2)
theorem s_i2c (hx : p.tables.exec = Jvm.exec) (hb : c.code = cc) (hdg : decode cc pc = .ok (.i2c, 1)) (h0 : ∀ pc L S sh μ mc ms, P0 pc L S sh μ mc ms → gSP p l e R s m args below meth c Qf D cl cA a0 A b MC MS pc L S sh μ mc ms) (hs : g1 S fun a S' => (0 ≤ a ∧ a < 65536) ∧ P0 (pc + 1) L (gI a :: S') sh μ mc ms) : gSP p l e R s m args below meth c Qf D cl cA a0 A b MC MS pc L S sh μ mc ms := by
  intro ad ls st ws H locs cells slots hnl hL hS hW hP hD hSf hc1 hc2
  obtain ⟨a, S', rfl, hr, hk⟩ := g1_i hs
  obtain ⟨st, rfl, ok1, hS1⟩ := hS.i1
  refine lv_i2c (v := Int32.ofInt a) hx hb hdg ?_ (h0 _ _ _ _ _ _ _ hk ad ls _ ws H locs cells slots hnl hL (gSr.mk (gVr.mkI (ok1)) hS1) hW hP hD hSf hc1 hc2)
  obtain ⟨n, rfl⟩ := Int.eq_ofNat_of_zero_le hr.1
  rw [Int32.ofInt_eq_ofNat]
  have hq := pk_char (nI n)
  rw [pk_tn (by omega), Nat.mod_eq_of_lt (by omega)] at hq
  exact hq
theorem s_ladd (hx : p.tables.exec = Jvm.exec) (hb : c.code = cc) (hdg : decode cc pc = .ok (.ladd, 1)) (h0 : ∀ pc L S sh μ mc ms, P0 pc L S sh μ mc ms → gSP p l e R s m args below meth c Qf D cl cA a0 A b MC MS pc L S sh μ mc ms) (hs : gLl S fun a b S' => P0 (pc + 1) L (gL (a + b) :: S') sh μ mc ms) : gSP p l e R s m args below meth c Qf D cl cA a0 A b MC MS pc L S sh μ mc ms := by
  intro ad ls st ws H locs cells slots hnl hL hS hW hP hD hSf hc1 hc2
  obtain ⟨a, d, S', rfl, hk⟩ := gLl_i hs
  obtain ⟨st, rfl, hS1⟩ := hS.l1
  obtain ⟨st, rfl, hS2⟩ := hS1.l1
  have q := (h0 _ _ _ _ _ _ _ hk ad ls _ ws H locs cells slots hnl hL (gSr.mk gVr.mkL hS2) hW hP hD hSf hc1 hc2)
  rw [Int64.ofInt_add] at q
  exact lv_ladd hx hb hdg q
theorem s_lmul (hx : p.tables.exec = Jvm.exec) (hb : c.code = cc) (hdg : decode cc pc = .ok (.lmul, 1)) (h0 : ∀ pc L S sh μ mc ms, P0 pc L S sh μ mc ms → gSP p l e R s m args below meth c Qf D cl cA a0 A b MC MS pc L S sh μ mc ms) (hs : gLl S fun a b S' => P0 (pc + 1) L (gL (a * b) :: S') sh μ mc ms) : gSP p l e R s m args below meth c Qf D cl cA a0 A b MC MS pc L S sh μ mc ms := by
  intro ad ls st ws H locs cells slots hnl hL hS hW hP hD hSf hc1 hc2
  obtain ⟨a, d, S', rfl, hk⟩ := gLl_i hs
  obtain ⟨st, rfl, hS1⟩ := hS.l1
  obtain ⟨st, rfl, hS2⟩ := hS1.l1
  have q := (h0 _ _ _ _ _ _ _ hk ad ls _ ws H locs cells slots hnl hL (gSr.mk gVr.mkL hS2) hW hP hD hSf hc1 hc2)
  rw [Int64.ofInt_mul] at q
  exact lv_lmul hx hb hdg q
theorem s_lcmp (hx : p.tables.exec = Jvm.exec) (hb : c.code = cc) (hdg : decode cc pc = .ok (.lcmp, 1)) (h0 : ∀ pc L S sh μ mc ms, P0 pc L S sh μ mc ms → gSP p l e R s m args below meth c Qf D cl cA a0 A b MC MS pc L S sh μ mc ms) (hs : gLl S fun a b S' => a = b ∧ P0 (pc + 1) L (gI 0 :: S') sh μ mc ms) : gSP p l e R s m args below meth c Qf D cl cA a0 A b MC MS pc L S sh μ mc ms := by
  intro ad ls st ws H locs cells slots hnl hL hS hW hP hD hSf hc1 hc2
  obtain ⟨a, d, S', rfl, rfl, hk⟩ := gLl_i hs
  obtain ⟨st, rfl, hS1⟩ := hS.l1
  obtain ⟨st, rfl, hS2⟩ := hS1.l1
  have q := (h0 _ _ _ _ _ _ _ hk ad ls _ ws H locs cells slots hnl hL (gSr.mk (gVr.mkI (by decide)) hS2) hW hP hD hSf hc1 hc2)
  refine W.lcmp hx hb hdg ?_
  rw [show lg_cmp (Int64.ofInt a) (Int64.ofInt a) = Int32.ofInt 0 by simp [lg_cmp]]
  exact q
theorem gIf_2 {k : ClassFile.Cond} {a d : Int} (h1 : gOk a) (h2 : gOk d) : gIf k a d ↔ (match k with
    | .eq => Int32.ofInt a = Int32.ofInt d
    | .ne => ¬ Int32.ofInt a = Int32.ofInt d
    | .lt => Int32.ofInt a < Int32.ofInt d
    | .ge => Int32.ofInt d ≤ Int32.ofInt a
    | .gt => Int32.ofInt d < Int32.ofInt a
    | .le => Int32.ofInt a ≤ Int32.ofInt d) := by
  cases k
  · exact (g_eq h1 h2).symm
  · exact (not_congr (g_eq h1 h2)).symm
  · exact (g_lt h1 h2).symm
  · exact (g_le h2 h1).symm
  · exact (g_lt h2 h1).symm
  · exact (g_le h1 h2).symm
theorem s_icmp (hx : p.tables.exec = Jvm.exec) (hb : c.code = cc) {k : ClassFile.Cond} {off : Int} {x : Nat} (hdg : decode cc pc = .ok (.if_icmp k off, 3)) (ht : (pc : Int) + off = (x : Int)) (h0 : ∀ pc L S sh μ mc ms, P0 pc L S sh μ mc ms → gSP p l e R s m args below meth c Qf D cl cA a0 A b MC MS pc L S sh μ mc ms) (hs : g2 S fun a b S' => gBr (gIf k a b) (P0 x L S' sh μ mc ms) (P0 (pc + 3) L S' sh μ mc ms)) : gSP p l e R s m args below meth c Qf D cl cA a0 A b MC MS pc L S sh μ mc ms := by
  intro ad ls st ws H locs cells slots hnl hL hS hW hP hD hSf hc1 hc2
  obtain ⟨a, d, S', rfl, hk⟩ := g2_i hs
  obtain ⟨st, rfl, ok2, hS1⟩ := hS.i1
  obtain ⟨st, rfl, ok1, hS2⟩ := hS1.i1
  have hi := gIf_2 (k := k) ok1 ok2
  cases k
  · exact lv_icmp_eq hx hb hdg ht (fun q => h0 _ _ _ _ _ _ _ (hk.1 (hi.mpr q)) ad ls _ ws H locs cells slots hnl hL hS2 hW hP hD hSf hc1 hc2) (fun q => h0 _ _ _ _ _ _ _ (hk.2 (fun z => q (hi.mp z))) ad ls _ ws H locs cells slots hnl hL hS2 hW hP hD hSf hc1 hc2)
  · exact lv_icmp_ne hx hb hdg ht (fun q => h0 _ _ _ _ _ _ _ (hk.1 (hi.mpr q)) ad ls _ ws H locs cells slots hnl hL hS2 hW hP hD hSf hc1 hc2) (fun q => h0 _ _ _ _ _ _ _ (hk.2 (fun z => hi.mp z q)) ad ls _ ws H locs cells slots hnl hL hS2 hW hP hD hSf hc1 hc2)
  · exact lv_icmp_lt hx hb hdg ht (fun q => h0 _ _ _ _ _ _ _ (hk.1 (hi.mpr q)) ad ls _ ws H locs cells slots hnl hL hS2 hW hP hD hSf hc1 hc2) (fun q => h0 _ _ _ _ _ _ _ (hk.2 (fun z => q (hi.mp z))) ad ls _ ws H locs cells slots hnl hL hS2 hW hP hD hSf hc1 hc2)
  · exact lv_icmp_ge hx hb hdg ht (fun q => h0 _ _ _ _ _ _ _ (hk.1 (hi.mpr q)) ad ls _ ws H locs cells slots hnl hL hS2 hW hP hD hSf hc1 hc2) (fun q => h0 _ _ _ _ _ _ _ (hk.2 (fun z => q (hi.mp z))) ad ls _ ws H locs cells slots hnl hL hS2 hW hP hD hSf hc1 hc2)
  · exact lv_icmp_gt hx hb hdg ht (fun q => h0 _ _ _ _ _ _ _ (hk.1 (hi.mpr q)) ad ls _ ws H locs cells slots hnl hL hS2 hW hP hD hSf hc1 hc2) (fun q => h0 _ _ _ _ _ _ _ (hk.2 (fun z => q (hi.mp z))) ad ls _ ws H locs cells slots hnl hL hS2 hW hP hD hSf hc1 hc2)
  · exact lv_icmp_le hx hb hdg ht (fun q => h0 _ _ _ _ _ _ _ (hk.1 (hi.mpr q)) ad ls _ ws H locs cells slots hnl hL hS2 hW hP hD hSf hc1 hc2) (fun q => h0 _ _ _ _ _ _ _ (hk.2 (fun z => q (hi.mp z))) ad ls _ ws H locs cells slots hnl hL hS2 hW hP hD hSf hc1 hc2)
theorem s_if (hx : p.tables.exec = Jvm.exec) (hb : c.code = cc) {k : ClassFile.Cond} {off : Int} {x : Nat} (hdg : decode cc pc = .ok (.ifCond k off, 3)) (ht : (pc : Int) + off = (x : Int)) (h0 : ∀ pc L S sh μ mc ms, P0 pc L S sh μ mc ms → gSP p l e R s m args below meth c Qf D cl cA a0 A b MC MS pc L S sh μ mc ms) (hs : g1 S fun a S' => gBr (gIf k a 0) (P0 x L S' sh μ mc ms) (P0 (pc + 3) L S' sh μ mc ms)) : gSP p l e R s m args below meth c Qf D cl cA a0 A b MC MS pc L S sh μ mc ms := by
  intro ad ls st ws H locs cells slots hnl hL hS hW hP hD hSf hc1 hc2
  obtain ⟨a, S', rfl, hk⟩ := g1_i hs
  obtain ⟨st, rfl, ok1, hS1⟩ := hS.i1
  have hi := gIf_2 (k := k) (d := 0) ok1 (by decide)
  cases k
  · exact lv_if_eq hx hb hdg ht (fun q => h0 _ _ _ _ _ _ _ (hk.1 (hi.mpr q)) ad ls _ ws H locs cells slots hnl hL hS1 hW hP hD hSf hc1 hc2) (fun q => h0 _ _ _ _ _ _ _ (hk.2 (fun z => q (hi.mp z))) ad ls _ ws H locs cells slots hnl hL hS1 hW hP hD hSf hc1 hc2)
  · exact lv_if_ne hx hb hdg ht (fun q => h0 _ _ _ _ _ _ _ (hk.1 (hi.mpr q)) ad ls _ ws H locs cells slots hnl hL hS1 hW hP hD hSf hc1 hc2) (fun q => h0 _ _ _ _ _ _ _ (hk.2 (fun z => hi.mp z q)) ad ls _ ws H locs cells slots hnl hL hS1 hW hP hD hSf hc1 hc2)
  · exact lv_if_lt hx hb hdg ht (fun q => h0 _ _ _ _ _ _ _ (hk.1 (hi.mpr q)) ad ls _ ws H locs cells slots hnl hL hS1 hW hP hD hSf hc1 hc2) (fun q => h0 _ _ _ _ _ _ _ (hk.2 (fun z => q (hi.mp z))) ad ls _ ws H locs cells slots hnl hL hS1 hW hP hD hSf hc1 hc2)
  · exact lv_if_ge hx hb hdg ht (fun q => h0 _ _ _ _ _ _ _ (hk.1 (hi.mpr q)) ad ls _ ws H locs cells slots hnl hL hS1 hW hP hD hSf hc1 hc2) (fun q => h0 _ _ _ _ _ _ _ (hk.2 (fun z => q (hi.mp z))) ad ls _ ws H locs cells slots hnl hL hS1 hW hP hD hSf hc1 hc2)
  · exact lv_if_gt hx hb hdg ht (fun q => h0 _ _ _ _ _ _ _ (hk.1 (hi.mpr q)) ad ls _ ws H locs cells slots hnl hL hS1 hW hP hD hSf hc1 hc2) (fun q => h0 _ _ _ _ _ _ _ (hk.2 (fun z => q (hi.mp z))) ad ls _ ws H locs cells slots hnl hL hS1 hW hP hD hSf hc1 hc2)
  · exact lv_if_le hx hb hdg ht (fun q => h0 _ _ _ _ _ _ _ (hk.1 (hi.mpr q)) ad ls _ ws H locs cells slots hnl hL hS1 hW hP hD hSf hc1 hc2) (fun q => h0 _ _ _ _ _ _ _ (hk.2 (fun z => q (hi.mp z))) ad ls _ ws H locs cells slots hnl hL hS1 hW hP hD hSf hc1 hc2)
theorem s_goto (hx : p.tables.exec = Jvm.exec) (hb : c.code = cc) {off : Int} {x : Nat} (hdg : decode cc pc = .ok (.goto off, 3)) (ht : (pc : Int) + off = (x : Int)) (h0 : ∀ pc L S sh μ mc ms, P0 pc L S sh μ mc ms → gSP p l e R s m args below meth c Qf D cl cA a0 A b MC MS pc L S sh μ mc ms) (hk : P0 x L S sh μ mc ms) : gSP p l e R s m args below meth c Qf D cl cA a0 A b MC MS pc L S sh μ mc ms := by
  intro ad ls st ws H locs cells slots hnl hL hS hW hP hD hSf hc1 hc2
  exact lv_goto hx hb hdg ht (h0 _ _ _ _ _ _ _ (hk) ad ls _ ws H locs cells slots hnl hL hS hW hP hD hSf hc1 hc2)
theorem s_ifnull_r (hx : p.tables.exec = Jvm.exec) (hb : c.code = cc) {off : Int} {x k : Nat} (hdg : decode cc pc = .ok (.ifnull off, 3)) (ht : (pc : Int) + off = (x : Int)) (h0 : ∀ pc L S sh μ mc ms, P0 pc L S sh μ mc ms → gSP p l e R s m args below meth c Qf D cl cA a0 A b MC MS pc L S sh μ mc ms) (hk : P0 (pc + 3) L S sh μ mc ms) : gSP p l e R s m args below meth c Qf D cl cA a0 A b MC MS pc L (gR k :: S) sh μ mc ms := by
  intro ad ls st ws H locs cells slots hnl hL hS hW hP hD hSf hc1 hc2
  obtain ⟨a, st, rfl, -, hS1⟩ := hS.r1
  exact lv_ifnull hx hb hdg (h0 _ _ _ _ _ _ _ (hk) ad ls _ ws H locs cells slots hnl hL hS1 hW hP hD hSf hc1 hc2)
theorem s_ifnull_n (hx : p.tables.exec = Jvm.exec) (hb : c.code = cc) {off : Int} {x : Nat} (hdg : decode cc pc = .ok (.ifnull off, 3)) (ht : (pc : Int) + off = (x : Int)) (h0 : ∀ pc L S sh μ mc ms, P0 pc L S sh μ mc ms → gSP p l e R s m args below meth c Qf D cl cA a0 A b MC MS pc L S sh μ mc ms) (hk : P0 x L S sh μ mc ms) : gSP p l e R s m args below meth c Qf D cl cA a0 A b MC MS pc L (gN 0 :: S) sh μ mc ms := by
  intro ad ls st ws H locs cells slots hnl hL hS hW hP hD hSf hc1 hc2
  obtain ⟨w, st, rfl, hw, hS1⟩ := hS.c1
  rw [show w = .null from hw]
  exact lv_ifnullN hx hb hdg ht (h0 _ _ _ _ _ _ _ (hk) ad ls _ ws H locs cells slots hnl hL hS1 hW hP hD hSf hc1 hc2)
theorem s_ifnonnull_r (hx : p.tables.exec = Jvm.exec) (hb : c.code = cc) {off : Int} {x k : Nat} (hdg : decode cc pc = .ok (.ifnonnull off, 3)) (ht : (pc : Int) + off = (x : Int)) (h0 : ∀ pc L S sh μ mc ms, P0 pc L S sh μ mc ms → gSP p l e R s m args below meth c Qf D cl cA a0 A b MC MS pc L S sh μ mc ms) (hk : P0 x L S sh μ mc ms) : gSP p l e R s m args below meth c Qf D cl cA a0 A b MC MS pc L (gR k :: S) sh μ mc ms := by
  intro ad ls st ws H locs cells slots hnl hL hS hW hP hD hSf hc1 hc2
  obtain ⟨a, st, rfl, -, hS1⟩ := hS.r1
  exact lv_ifnonnull hx hb hdg ht (h0 _ _ _ _ _ _ _ (hk) ad ls _ ws H locs cells slots hnl hL hS1 hW hP hD hSf hc1 hc2)
theorem s_ifnonnull_n (hx : p.tables.exec = Jvm.exec) (hb : c.code = cc) {off : Int} {x : Nat} (hdg : decode cc pc = .ok (.ifnonnull off, 3)) (ht : (pc : Int) + off = (x : Int)) (h0 : ∀ pc L S sh μ mc ms, P0 pc L S sh μ mc ms → gSP p l e R s m args below meth c Qf D cl cA a0 A b MC MS pc L S sh μ mc ms) (hk : P0 (pc + 3) L S sh μ mc ms) : gSP p l e R s m args below meth c Qf D cl cA a0 A b MC MS pc L (gN 0 :: S) sh μ mc ms := by
  intro ad ls st ws H locs cells slots hnl hL hS hW hP hD hSf hc1 hc2
  obtain ⟨w, st, rfl, hw, hS1⟩ := hS.c1
  rw [show w = .null from hw]
  exact lv_ifnonnullN hx hb hdg (h0 _ _ _ _ _ _ _ (hk) ad ls _ ws H locs cells slots hnl hL hS1 hW hP hD hSf hc1 hc2)
theorem gSw_i {a : Int} {k : Int → Prop} : ∀ {t : List Int} {j : Int} {i : Nat} {o : Int}, gSw a j t k → t[i]? = some o → a = j + i → k o
  | [], _, _, _, _, h, _ => by simp at h
  | o :: t, j, 0, o', h, ho, ha => by
    simp at ho; subst ho
    exact h.1 (by simpa using ha)
  | o :: t, j, i + 1, o', h, ho, ha => gSw_i (t := t) (j := j + 1) (i := i) h.2 (by simpa using ho) (by omega)
theorem s_table (hx : p.tables.exec = Jvm.exec) (hb : c.code = cc) {d lo hi : Int} {offs : Array Int} {x : Nat} (hdg : decode cc pc = .ok (.tableswitch d lo hi offs, x)) (h0 : ∀ pc L S sh μ mc ms, P0 pc L S sh μ mc ms → gSP p l e R s m args below meth c Qf D cl cA a0 A b MC MS pc L S sh μ mc ms) (hs : g1 S fun a S' => gIs (decide ((offs.size : Int) = hi - lo + 1) && decide (0 ≤ (pc : Int) + d)) ((a < lo ∨ hi < a → P0 ((pc : Int) + d).toNat L S' sh μ mc ms) ∧ gSw a lo offs.toList fun o => gIs (decide (0 ≤ (pc : Int) + o)) (P0 ((pc : Int) + o).toNat L S' sh μ mc ms))) : gSP p l e R s m args below meth c Qf D cl cA a0 A b MC MS pc L S sh μ mc ms := by
  intro ad ls st ws H locs cells slots hnl hL hS hW hP hD hSf hc1 hc2
  obtain ⟨a, S', rfl, hk⟩ := g1_i hs
  obtain ⟨st, rfl, ok1, hS1⟩ := hS.i1
  obtain ⟨hq, hk1, hk2⟩ := gIs_t hk
  rw [Bool.and_eq_true, decide_eq_true_eq, decide_eq_true_eq] at hq
  obtain ⟨hz, hd⟩ := hq
  by_cases hab : a < lo ∨ hi < a
  · exact lv_tableOut hx hb hdg (by rw [g_toInt ok1]; exact hab) (Int.toNat_of_nonneg hd).symm (h0 _ _ _ _ _ _ _ (hk1 hab) ad ls _ ws H locs cells slots hnl hL hS1 hW hP hD hSf hc1 hc2)
  · have h1 : ¬ a < lo := fun q => hab (Or.inl q)
    have h2 : ¬ hi < a := fun q => hab (Or.inr q)
    have hlt : (a - lo).toNat < offs.toList.length := by rw [Array.length_toList]; omega
    have ho : offs.toList[(a - lo).toNat]? = some offs.toList[(a - lo).toNat] := List.getElem?_eq_getElem hlt
    obtain ⟨h3, h4⟩ := gIs_t (gSw_i hk2 ho (by omega))
    rw [decide_eq_true_eq] at h3
    refine lv_tableIn (off := offs.toList[(a - lo).toNat]) hx hb hdg (by rw [g_toInt ok1]; exact h1) (by rw [g_toInt ok1]; exact h2) (by rw [g_toInt ok1, ← Array.getElem?_toList]; exact ho) (Int.toNat_of_nonneg h3).symm (h0 _ _ _ _ _ _ _ (h4) ad ls _ ws H locs cells slots hnl hL hS1 hW hP hD hSf hc1 hc2)
end GS
end
section
/-! ===== the rows that read and write cells ===== -/
def gTys (cA : Nat → ClassId) (E : String) : List (ClassId × FieldType) := [(cA 0, .int), (cA 1, .boolean), (cA 2, .char), (cA 3, .object E)]
/-- what the tables say of a field: its declarer, its place, its type -/
def gFd (cl : List vw_C) (F : Nat → List Nat) (Ts : List Cond) (x k : Nat) (C : String) (Tf : u_T) (N : Nat) (ty : Nat → FieldType) : Prop :=
  cl[x]? = some (C, Tf, N) ∧ x < 100 ∧ k < N ∧ (∀ w ∈ u_ws C Tf N, w ∈ Ts) ∧ (∀ j, j < N → parseFieldDescriptor (Tf j).2.2.1 = some (ty j)) ∧ (∀ a, a < N → ∀ b, b < N → a ≠ b → (Tf a).2.1 ≠ (Tf b).2.1) ∧ (Tf k).1 = C ∧ ∀ kd, (F x)[k]? = some kd → (match kd with
    | 0 => ty k = .int
    | 1 => ty k = .boolean
    | 2 => (∃ n, ty k = .object n) ∨ ∃ t, ty k = .array t
    | _ => False)
theorem gCe_o {cA : Nat → ClassId} {ad : List Nat} {b : Nat} {c : GC} {r : Int → Int} {e : va_E} (h : gCe cA ad b c r e) (hc : c.1 < 100) : c.2.2.length = c.2.1 ∧ ∃ fs : List Value, e = .inr (c.1, fs) ∧ fs.length = c.2.1 ∧ ∀ (k : Nat) (o : Option GV), c.2.2[k]? = some o → ∃ w, fs[k]? = some w ∧ (match o with
    | none => gVr ad b (gI (r k)) w
    | some v => gTr v = true ∧ gVr ad b v w) := by
  rcases h with h | h | h
  · exact h.2
  · omega
  · omega
theorem gCe_a {cA : Nat → ClassId} {ad : List Nat} {b : Nat} {c : GC} {r : Int → Int} {e : va_E} (h : gCe cA ad b c r e) {t : Nat} (hc : c.1 = 100 + t) (ht : t < 3) : ∃ f : Nat → Int32, e = .inl (cA t, c.2.1, .inl f) ∧ ∀ j : Nat, j < c.2.1 → f j = Int32.ofInt (r j) ∧ gOk (r j) := by
  rcases h with h | h | h
  · omega
  · obtain ⟨-, -, f, h1, h2⟩ := h
    refine ⟨f, ?_, h2⟩
    rw [h1, hc, Nat.add_sub_cancel_left]
  · omega
theorem gCe_q {cA : Nat → ClassId} {ad : List Nat} {b : Nat} {c : GC} {r : Int → Int} {e : va_E} (h : gCe cA ad b c r e) (hc : c.1 = 103) : c.2.2.length = c.2.1 ∧ ∃ f : Nat → Option Nat, e = .inl (cA 3, c.2.1, .inr (.inr (.inr (.inr f)))) ∧ ∀ (j : Nat) (o : Option GV), c.2.2[j]? = some o → (o = some (gN 0) ∧ f j = none) ∨ ∃ k a, o = some (gR k) ∧ ad[k]? = some a ∧ f j = some a := by
  rcases h with h | h | h
  · omega
  · omega
  · exact h.2
theorem gSh_set {sh : SH} {a : Nat} {c : GC} (h : sh[a]? = some c) : sh.set a c = sh := by
  apply List.ext_getElem?
  intro j
  by_cases hj : j = a
  · subst hj; rw [List.getElem?_set_self (List.getElem?_eq_some_iff.mp h).1, h]
  · rw [List.getElem?_set_ne (Ne.symm hj)]
theorem gW_s (μ : MU) (a : Nat) (i v : Int) : gW μ a i v a = fun j => if j = i then v else μ a j := if_pos rfl
theorem gW_o (μ : MU) {a k : Nat} (i v : Int) (h : k ≠ a) : gW μ a i v k = μ k := if_neg h
theorem gW_si (μ : MU) (a : Nat) (i v : Int) : gW μ a i v a i = v := by rw [gW_s]; exact if_pos rfl
theorem gW_sn (μ : MU) (a : Nat) (i v : Int) {j : Int} (h : j ≠ i) : gW μ a i v a j = μ a j := by rw [gW_s]; exact if_neg h
theorem gSel_i {i : Int} {k : GV → Prop} : ∀ {t : List (Option GV)} {j : Int} {n : Nat} {o : Option GV}, gSel i j t k → t[n]? = some o → i = j + n → ∃ v, o = some v ∧ k v
  | [], _, _, _, _, h, _ => by simp at h
  | q :: t, j, 0, o, h, ho, hi => by
    simp at ho; subst ho
    have h1 := h.1 (by simpa using hi)
    cases q with
    | none => exact h1.elim
    | some v => exact ⟨v, rfl, h1⟩
  | q :: t, j, n + 1, o, h, ho, hi => gSel_i (t := t) (j := j + 1) (n := n) h.2 (by simpa using ho) (by omega)
section GH
variable {p : Program} {l : Launch} {e : Env} {R : Room} {s : State} {m : MethodId} {args : Array Value} {below : List Frame} {meth : Method} {c : Code} {Qf : State → Prop}
variable {D : va_G} {cl : List vw_C} {cA : Nat → ClassId} {a0 : List Nat} {A : Nat → Prop} {b MC MS : Nat} {cc : ByteArray}
variable {pc : Nat} {L S : List GV} {sh : SH} {μ : MU} {mc ms : Nat}
variable {P0 : GP} {E own C : String} {Ts : List Cond} {F : Nat → List Nat}
theorem s_get (hx : p.tables.exec = Jvm.exec) (hb : c.code = cc) {idx x : Nat} {y : Int} {Tf : u_T} {N : Nat} {ty : Nat → FieldType} (hts : ∀ w ∈ Ts, w.before args s = true) (hown : s.vm.findClass own = some m.cls) (hK : va_K D cl (gTys cA E) s) (hfd : gFd cl F Ts x y.toNat C Tf N ty) (hy : 0 ≤ y) (hlink : (Cond.fieldLink own idx C (Tf y.toNat).2.1 (Tf y.toNat).2.2.1).before args s = true) (hdg : decode cc pc = .ok (.getfield idx, 3)) (h0 : ∀ pc L S sh μ mc ms, P0 pc L S sh μ mc ms → gSP p l e R s m args below meth c Qf D cl cA a0 A b MC MS pc L S sh μ mc ms) (hs : gGet P0 pc L S sh μ mc ms x y) : gSP p l e R s m args below meth c Qf D cl cA a0 A b MC MS pc L S sh μ mc ms := by
  intro ad ls st ws H locs cells slots hnl hL hS hW hP hD hSf hc1 hc2
  obtain ⟨hcl, hx1, hkN, hin, -, -, hde, -⟩ := hfd
  obtain ⟨a, S', rfl, hs⟩ := gRf_i hs
  obtain ⟨k, hk, hs⟩ := gCel_i hs
  obtain ⟨hkx, hs⟩ := gIs_t hs
  have hkx : k.1 = x := Nat.eq_of_beq_eq_true hkx
  obtain ⟨aa, st, rfl, haa, hS⟩ := hS.r1
  obtain ⟨ec, hec, hce⟩ := hW.at hk haa
  obtain ⟨-, fs, rfl, -, hfs⟩ := gCe_o hce (by omega)
  rw [hkx] at hec
  cases ho : k.2.2[y.toNat]? with
  | none => rw [ho] at hs; exact hs.elim
  | some o =>
    rw [ho] at hs
    obtain ⟨w, hw, hv⟩ := hfs y.toNat o ho
    refine va_get hx hb hts hin hown hK hP a hec hcl y.toNat hkN hlink (by rw [hde]; exact fun _ h => h) hw hdg ?_
    cases o with
    | none =>
      have hv : gVr ad b (gI (μ a (y.toNat : Int))) w := hv
      rw [Int.toNat_of_nonneg hy] at hv
      exact h0 _ _ _ _ _ _ _ hs ad ls _ ws H locs cells slots hnl hL (gSr.mk hv hS) hW hP hD hSf hc1 hc2
    | some v => exact h0 _ _ _ _ _ _ _ hs ad ls _ ws H locs cells slots hnl hL (gSr.mk hv.2 hS) hW hP hD hSf hc1 hc2
theorem s_put1 (hx : p.tables.exec = Jvm.exec) (hb : c.code = cc) {idx x : Nat} {k : Nat} {Tf : u_T} {N : Nat} {ty : Nat → FieldType} {H : Heap} {ws : va_W} {locs : List Loc} {cells slots : Nat} {ls : Array Slot} {st : List Value} {a aa : Nat} {v : Value} {fs : List Value} (hts : ∀ w ∈ Ts, w.before args s = true) (hown : s.vm.findClass own = some m.cls) (hK : va_K D cl (gTys cA E) s) (hfd : gFd cl F Ts x k C Tf N ty) (hlink : (Cond.fieldLink own idx C (Tf k).2.1 (Tf k).2.2.1).before args s = true) (hfin : (Tf k).2.2.2 = false ∨ (Tf k).2.2.2 = true ∧ meth.name = "<init>" ∧ C = own) (hdg : decode cc pc = .ok (.putfield idx, 3)) (hP : va_P D cl ws H) (hD : va_D A ws) (hSf : va_S A s.heap H locs) (hec : ws[a]? = some (aa, .inr (x, fs))) (hn : narrow (ty k) v = v) (hf : fits (ty k) v = true) (hl : k < fs.length)
    (kk : ∀ (H1 : Heap) (locs1 : List Loc), va_P D cl (ws.set a (aa, .inr (x, fs.set k v))) H1 → va_D A (ws.set a (aa, .inr (x, fs.set k v))) → va_S A s.heap H1 locs1 → W p l e R s m args below meth c H1 locs1 cells slots Qf (F0 m (pc + 3) ls st)) : W p l e R s m args below meth c H locs cells slots Qf (F0 m pc ls (v :: .ref aa :: st)) := by
  obtain ⟨hcl, hx1, hkN, hin, hty, hnm, hde, -⟩ := hfd
  rcases hfin with hfin | ⟨hfin, hin2, hCo⟩
  · exact va_put hx hb hts hin ty hty hnm hown hK hP hD hSf a hec hcl k hkN hlink (by rw [hde]; exact fun _ h => h) hfin (hty k hkN) hn hf hl hdg kk
  · exact va_putF hx hb hts hin ty hty hnm hown hK hP hD hSf a hec hcl k hkN hlink (by rw [hde]; exact fun _ h => h) hfin hin2 (by rw [hde, hCo]) (hty k hkN) hn hf hl hdg kk
theorem s_put (hx : p.tables.exec = Jvm.exec) (hb : c.code = cc) {idx x : Nat} {y : Int} {Tf : u_T} {N : Nat} {ty : Nat → FieldType} (hts : ∀ w ∈ Ts, w.before args s = true) (hown : s.vm.findClass own = some m.cls) (hK : va_K D cl (gTys cA E) s) (hfd : gFd cl F Ts x y.toNat C Tf N ty) (hy : 0 ≤ y) (hlink : (Cond.fieldLink own idx C (Tf y.toNat).2.1 (Tf y.toNat).2.2.1).before args s = true) (hfin : (Tf y.toNat).2.2.2 = false ∨ (Tf y.toNat).2.2.2 = true ∧ meth.name = "<init>" ∧ C = own) (hdg : decode cc pc = .ok (.putfield idx, 3)) (h0 : ∀ pc L S sh μ mc ms, P0 pc L S sh μ mc ms → gSP p l e R s m args below meth c Qf D cl cA a0 A b MC MS pc L S sh μ mc ms) (hs : gPut F P0 pc L S sh μ mc ms x y) : gSP p l e R s m args below meth c Qf D cl cA a0 A b MC MS pc L S sh μ mc ms := by
  intro ad ls st ws H locs cells slots hnl hL hS hW hP hD hSf hc1 hc2
  have hx1 : x < 100 := hfd.2.1
  unfold gPut at hs
  split at hs
  · rename_i n a S'
    obtain ⟨k, hk, hs⟩ := gCel_i hs
    obtain ⟨hkx, hs⟩ := gIs_t hs
    have hkx : k.1 = x := Nat.eq_of_beq_eq_true hkx
    obtain ⟨st, rfl, okn, hS⟩ := hS.i1
    obtain ⟨aa, st, rfl, haa, hS⟩ := hS.r1
    obtain ⟨ec, hec, hce⟩ := hW.at hk haa
    obtain ⟨hlen, fs, rfl, hfl, hfs⟩ := gCe_o hce (by omega)
    have key : ∀ kd, k.2.2[y.toNat]? = some none → (F x)[y.toNat]? = some kd → narrow (ty y.toNat) (.int (Int32.ofInt n)) = .int (Int32.ofInt n) → fits (ty y.toNat) (.int (Int32.ofInt n)) = true → P0 (pc + 3) L S' sh (gW μ a y n) mc ms → W p l e R s m args below meth c H locs cells slots Qf (F0 m pc ls (.int (Int32.ofInt n) :: .ref aa :: st)) := by
      intro kd h1 h2 h3 h4 h5
      have hkl : y.toNat < fs.length := by rw [hfl, ← hlen]; exact (List.getElem?_eq_some_iff.mp h1).1
      rw [hkx] at hec
      refine s_put1 hx hb hts hown hK hfd hlink hfin hdg hP hD hSf hec h3 h4 hkl fun H1 locs1 hP1 hD1 hS1 => ?_
      have hW1 := hW.set (μ' := gW μ a y n) (c' := k) (e' := .inr (x, fs.set y.toNat (.int (Int32.ofInt n)))) hk hec (by
        refine Or.inl ⟨by omega, hlen, _, by rw [hkx], by rw [List.length_set]; exact hfl, fun j o ho => ?_⟩
        by_cases hj : j = y.toNat
        · subst hj
          rw [h1] at ho
          cases ho
          refine ⟨_, List.getElem?_set_self hkl, ?_⟩
          show gVr ad b (gI (gW μ a y n a (y.toNat : Int))) _
          rw [Int.toNat_of_nonneg hy, gW_si]
          exact gVr.mkI okn
        · obtain ⟨w, hw, hv⟩ := hfs j o ho
          refine ⟨w, by rw [List.getElem?_set_ne (Ne.symm hj)]; exact hw, ?_⟩
          cases o with
          | none =>
            show gVr ad b (gI (gW μ a y n a (j : Int))) _
            rw [gW_sn _ _ _ _ (by omega)]
            exact hv
          | some v => exact hv) (fun j hj => gW_o μ y n hj)
      rw [gSh_set hk] at hW1
      exact h0 _ _ _ _ _ _ _ h5 ad ls _ _ H1 locs1 cells slots hnl hL hS hW1 hP1 hD1 hS1 hc1 hc2
    have hkd := hfd.2.2.2.2.2.2.2
    split at hs
    · rename_i h1 h2
      have ht := hkd 0 h2
      exact key 0 h1 h2 (by rw [show ty y.toNat = .int from ht]; rfl) (by rw [show ty y.toNat = .int from ht]; rfl) hs
    · rename_i h1 h2
      have ht := hkd 1 h2
      obtain ⟨hn, hs⟩ := hs
      rcases hn with rfl | rfl
      · exact key 1 h1 h2 (by rw [show ty y.toNat = .boolean from ht]; rfl) (by rw [show ty y.toNat = .boolean from ht]; rfl) hs
      · exact key 1 h1 h2 (by rw [show ty y.toNat = .boolean from ht]; rfl) (by rw [show ty y.toNat = .boolean from ht]; rfl) hs
    · exact hs.elim
  · rename_i r a S'
    obtain ⟨k, hk, hs⟩ := gCel_i hs
    obtain ⟨hkx, hs⟩ := gIs_t hs
    have hkx : k.1 = x := Nat.eq_of_beq_eq_true hkx
    obtain ⟨ra, st, rfl, hra, hS⟩ := hS.r1
    obtain ⟨aa, st, rfl, haa, hS⟩ := hS.r1
    obtain ⟨ec, hec, hce⟩ := hW.at hk haa
    obtain ⟨hlen, fs, rfl, hfl, hfs⟩ := gCe_o hce (by omega)
    have hkd := hfd.2.2.2.2.2.2.2
    split at hs
    · rename_i vo h1 h2
      have ht : (∃ n, ty y.toNat = .object n) ∨ ∃ t, ty y.toNat = .array t := hkd 2 h2
      rw [hkx] at hec
      have hkl : y.toNat < fs.length := by rw [hfl, ← hlen]; exact (List.getElem?_eq_some_iff.mp h1).1
      refine s_put1 hx hb hts hown hK hfd hlink hfin hdg hP hD hSf hec (by rcases ht with ⟨n, e1⟩ | ⟨n, e1⟩ <;> rw [e1] <;> rfl) (by rcases ht with ⟨n, e1⟩ | ⟨n, e1⟩ <;> rw [e1] <;> rfl) hkl fun H1 locs1 hP1 hD1 hS1 => ?_
      have hW1 := hW.set (μ' := μ) (c' := (k.1, k.2.1, k.2.2.set y.toNat (some (gR r)))) (e' := .inr (x, fs.set y.toNat (.ref ra))) hk hec (by
        refine Or.inl ⟨by show k.1 < 100; omega, by rw [List.length_set]; exact hlen, _, by rw [hkx], by rw [List.length_set]; exact hfl, fun j o ho => ?_⟩
        by_cases hj : j = y.toNat
        · subst hj
          rw [List.getElem?_set_self (by rw [hlen, ← hfl]; exact hkl)] at ho
          cases ho
          exact ⟨_, List.getElem?_set_self hkl, rfl, gVr.mkR hra⟩
        · rw [List.getElem?_set_ne (Ne.symm hj)] at ho
          obtain ⟨w, hw, hv⟩ := hfs j o ho
          exact ⟨w, by rw [List.getElem?_set_ne (Ne.symm hj)]; exact hw, hv⟩) (fun j hj => rfl)
      exact h0 _ _ _ _ _ _ _ hs ad ls _ _ H1 locs1 cells slots hnl hL hS hW1 hP1 hD1 hS1 hc1 hc2
    · exact hs.elim
  · exact hs.elim
theorem s_iaload (hx : p.tables.exec = Jvm.exec) (hb : c.code = cc) (hK : va_K D cl (gTys cA E) s) {u : Bool} {NN : Int} {XX : Int → Int} (hscr : u = true → ∃ (Ls : Nat) (xs : Nat → Int32), va_X b Ls xs s s.heap ∧ b < s.heap.size ∧ ¬ A b ∧ NN = Ls ∧ Ls < 2147483648 ∧ ∀ j : Nat, j < Ls → xs j = Int32.ofInt (XX j) ∧ gOk (XX j)) (hdg : decode cc pc = .ok (.iaload, 1)) (h0 : ∀ pc L S sh μ mc ms, P0 pc L S sh μ mc ms → gSP p l e R s m args below meth c Qf D cl cA a0 A b MC MS pc L S sh μ mc ms) (hs : gAld 100 NN XX u P0 pc L S sh μ mc ms) : gSP p l e R s m args below meth c Qf D cl cA a0 A b MC MS pc L S sh μ mc ms := by
  intro ad ls st ws H locs cells slots hnl hL hS hW hP hD hSf hc1 hc2
  unfold gAld at hs
  split at hs
  · rename_i i a S'
    obtain ⟨k, hk, hs⟩ := gCel_i hs
    obtain ⟨hkx, ⟨hi0, hi1⟩, hs⟩ := gIs_t hs
    have hkx : k.1 = 100 + 0 := Nat.eq_of_beq_eq_true hkx
    obtain ⟨st, rfl, oki, hS⟩ := hS.i1
    obtain ⟨aa, st, rfl, haa, hS⟩ := hS.r1
    obtain ⟨ec, hec, hce⟩ := hW.at hk haa
    obtain ⟨f, rfl, hf⟩ := gCe_a hce hkx (by decide)
    have hi2 : i.toNat < k.2.1 := by omega
    obtain ⟨hf1, hf2⟩ := hf i.toNat hi2
    rw [Int.toNat_of_nonneg hi0] at hf1 hf2
    refine va_iald hx hb hK hP a 0 hec rfl (g_in oki hi0 hi1) hdg ?_
    rw [g_cl oki, hf1]
    exact h0 _ _ _ _ _ _ _ hs ad ls _ ws H locs cells slots hnl hL (gSr.mk (gVr.mkI hf2) hS) hW hP hD hSf hc1 hc2
  · rename_i i S'
    obtain ⟨hu, ⟨hi0, hi1⟩, hs⟩ := gIs_t hs
    rw [Bool.and_eq_true] at hu
    obtain ⟨Ls, xs, hX, hbs, hbA, hN, hLs, hxs⟩ := hscr hu.1
    rw [hN] at hi1
    obtain ⟨st, rfl, oki, hS⟩ := hS.i1
    obtain ⟨w, st, rfl, hw, hS⟩ := hS.c1
    rw [show w = .ref b from hw]
    have hi2 : i.toNat < Ls := by omega
    obtain ⟨hf1, hf2⟩ := hxs i.toNat hi2
    rw [Int.toNat_of_nonneg hi0] at hf1 hf2
    refine va_sld hx hb hX hbs hbA hSf (g_in oki hi0 hi1) hdg ?_
    rw [g_cl oki, hf1]
    exact h0 _ _ _ _ _ _ _ hs ad ls _ ws H locs cells slots hnl hL (gSr.mk (gVr.mkI hf2) hS) hW hP hD hSf hc1 hc2
  · exact hs.elim
theorem s_iastore (hx : p.tables.exec = Jvm.exec) (hb : c.code = cc) (hK : va_K D cl (gTys cA E) s) (hdg : decode cc pc = .ok (.iastore, 1)) (h0 : ∀ pc L S sh μ mc ms, P0 pc L S sh μ mc ms → gSP p l e R s m args below meth c Qf D cl cA a0 A b MC MS pc L S sh μ mc ms) (hs : gAst 100 P0 pc L S sh μ mc ms) : gSP p l e R s m args below meth c Qf D cl cA a0 A b MC MS pc L S sh μ mc ms := by
  intro ad ls st ws H locs cells slots hnl hL hS hW hP hD hSf hc1 hc2
  unfold gAst at hs
  split at hs
  · rename_i v i a S'
    obtain ⟨k, hk, hs⟩ := gCel_i hs
    obtain ⟨hkx, ⟨hi0, hi1⟩, hs⟩ := gIs_t hs
    have hkx : k.1 = 100 + 0 := Nat.eq_of_beq_eq_true hkx
    obtain ⟨st, rfl, okv, hS⟩ := hS.i1
    obtain ⟨st, rfl, oki, hS⟩ := hS.i1
    obtain ⟨aa, st, rfl, haa, hS⟩ := hS.r1
    obtain ⟨ec, hec, hce⟩ := hW.at hk haa
    obtain ⟨f, rfl, hf⟩ := gCe_a hce hkx (by decide)
    have hv : Int32.ofInt v = Int32.ofInt v := rfl
    have hs : P0 (pc + 1) L S' sh (gW μ a i v) mc ms := hs
    refine va_iast hx hb hK hP hD hSf a 0 hec rfl (g_in oki hi0 hi1) hdg fun H1 locs1 hP1 hD1 hS1 => ?_
    have hW1 := hW.set (μ' := gW μ a i v) (c' := k) (e' := .inl (cA 0, k.2.1, .inl (upd f (Int32.ofInt i).toNatClampNeg (Int32.ofInt v)))) hk hec (by
      refine Or.inr (Or.inl ⟨by omega, by omega, _, by rw [hkx, Nat.add_sub_cancel_left], fun j hj => ?_⟩)
      rw [g_cl oki]
      by_cases hji : j = i.toNat
      · subst hji
        rw [pk_us, Int.toNat_of_nonneg hi0, gW_si]
        exact ⟨rfl, okv⟩
      · rw [pk_un hji, gW_sn _ _ _ _ (by omega)]
        exact hf j hj) (fun j hj => gW_o μ i v hj)
    rw [gSh_set hk] at hW1
    exact h0 _ _ _ _ _ _ _ hs ad ls _ _ H1 locs1 cells slots hnl hL hS hW1 hP1 hD1 hS1 hc1 hc2
  · exact hs.elim
theorem s_baload (hx : p.tables.exec = Jvm.exec) (hb : c.code = cc) (hK : va_K D cl (gTys cA E) s) {u : Bool} {NN : Int} {XX : Int → Int} (hscr : u = true → ∃ (Ls : Nat) (xs : Nat → Int32), va_X b Ls xs s s.heap ∧ b < s.heap.size ∧ ¬ A b ∧ NN = Ls ∧ Ls < 2147483648 ∧ ∀ j : Nat, j < Ls → xs j = Int32.ofInt (XX j) ∧ gOk (XX j)) (hdg : decode cc pc = .ok (.baload, 1)) (h0 : ∀ pc L S sh μ mc ms, P0 pc L S sh μ mc ms → gSP p l e R s m args below meth c Qf D cl cA a0 A b MC MS pc L S sh μ mc ms) (hs : gAld 101 NN XX u P0 pc L S sh μ mc ms) : gSP p l e R s m args below meth c Qf D cl cA a0 A b MC MS pc L S sh μ mc ms := by
  intro ad ls st ws H locs cells slots hnl hL hS hW hP hD hSf hc1 hc2
  unfold gAld at hs
  split at hs
  · rename_i i a S'
    obtain ⟨k, hk, hs⟩ := gCel_i hs
    obtain ⟨hkx, ⟨hi0, hi1⟩, hs⟩ := gIs_t hs
    have hkx : k.1 = 100 + 1 := Nat.eq_of_beq_eq_true hkx
    obtain ⟨st, rfl, oki, hS⟩ := hS.i1
    obtain ⟨aa, st, rfl, haa, hS⟩ := hS.r1
    obtain ⟨ec, hec, hce⟩ := hW.at hk haa
    obtain ⟨f, rfl, hf⟩ := gCe_a hce hkx (by decide)
    have hi2 : i.toNat < k.2.1 := by omega
    obtain ⟨hf1, hf2⟩ := hf i.toNat hi2
    rw [Int.toNat_of_nonneg hi0] at hf1 hf2
    refine va_zald hx hb hK hP a 1 hec rfl (g_in oki hi0 hi1) hdg ?_
    rw [g_cl oki, hf1]
    exact h0 _ _ _ _ _ _ _ hs ad ls _ ws H locs cells slots hnl hL (gSr.mk (gVr.mkI hf2) hS) hW hP hD hSf hc1 hc2
  · obtain ⟨hu, -⟩ := gIs_t hs
    rw [Bool.and_eq_true] at hu
    exact absurd hu.2 (by decide)
  · exact hs.elim
theorem s_bastore (hx : p.tables.exec = Jvm.exec) (hb : c.code = cc) (hK : va_K D cl (gTys cA E) s) (hdg : decode cc pc = .ok (.bastore, 1)) (h0 : ∀ pc L S sh μ mc ms, P0 pc L S sh μ mc ms → gSP p l e R s m args below meth c Qf D cl cA a0 A b MC MS pc L S sh μ mc ms) (hs : gAst 101 P0 pc L S sh μ mc ms) : gSP p l e R s m args below meth c Qf D cl cA a0 A b MC MS pc L S sh μ mc ms := by
  intro ad ls st ws H locs cells slots hnl hL hS hW hP hD hSf hc1 hc2
  unfold gAst at hs
  split at hs
  · rename_i v i a S'
    obtain ⟨k, hk, hs⟩ := gCel_i hs
    obtain ⟨hkx, ⟨hi0, hi1⟩, hs⟩ := gIs_t hs
    have hkx : k.1 = 100 + 1 := Nat.eq_of_beq_eq_true hkx
    obtain ⟨st, rfl, okv, hS⟩ := hS.i1
    obtain ⟨st, rfl, oki, hS⟩ := hS.i1
    obtain ⟨aa, st, rfl, haa, hS⟩ := hS.r1
    obtain ⟨ec, hec, hce⟩ := hW.at hk haa
    obtain ⟨f, rfl, hf⟩ := gCe_a hce hkx (by decide)
    have hv : vp_nar .boolean (Int32.ofInt v) = Int32.ofInt v := by
      rcases hs.1 with rfl | rfl <;> rfl
    have hs : P0 (pc + 1) L S' sh (gW μ a i v) mc ms := hs.2
    refine va_zast hx hb hK hP hD hSf a 1 hec rfl (g_in oki hi0 hi1) hdg fun H1 locs1 hP1 hD1 hS1 => ?_
    rw [hv] at hP1 hD1
    have hW1 := hW.set (μ' := gW μ a i v) (c' := k) (e' := .inl (cA 1, k.2.1, .inl (upd f (Int32.ofInt i).toNatClampNeg (Int32.ofInt v)))) hk hec (by
      refine Or.inr (Or.inl ⟨by omega, by omega, _, by rw [hkx, Nat.add_sub_cancel_left], fun j hj => ?_⟩)
      rw [g_cl oki]
      by_cases hji : j = i.toNat
      · subst hji
        rw [pk_us, Int.toNat_of_nonneg hi0, gW_si]
        exact ⟨rfl, okv⟩
      · rw [pk_un hji, gW_sn _ _ _ _ (by omega)]
        exact hf j hj) (fun j hj => gW_o μ i v hj)
    rw [gSh_set hk] at hW1
    exact h0 _ _ _ _ _ _ _ hs ad ls _ _ H1 locs1 cells slots hnl hL hS hW1 hP1 hD1 hS1 hc1 hc2
  · exact hs.elim
theorem s_caload (hx : p.tables.exec = Jvm.exec) (hb : c.code = cc) (hK : va_K D cl (gTys cA E) s) {u : Bool} {NN : Int} {XX : Int → Int} (hscr : u = true → ∃ (Ls : Nat) (xs : Nat → Int32), va_X b Ls xs s s.heap ∧ b < s.heap.size ∧ ¬ A b ∧ NN = Ls ∧ Ls < 2147483648 ∧ ∀ j : Nat, j < Ls → xs j = Int32.ofInt (XX j) ∧ gOk (XX j)) (hdg : decode cc pc = .ok (.caload, 1)) (h0 : ∀ pc L S sh μ mc ms, P0 pc L S sh μ mc ms → gSP p l e R s m args below meth c Qf D cl cA a0 A b MC MS pc L S sh μ mc ms) (hs : gAld 102 NN XX u P0 pc L S sh μ mc ms) : gSP p l e R s m args below meth c Qf D cl cA a0 A b MC MS pc L S sh μ mc ms := by
  intro ad ls st ws H locs cells slots hnl hL hS hW hP hD hSf hc1 hc2
  unfold gAld at hs
  split at hs
  · rename_i i a S'
    obtain ⟨k, hk, hs⟩ := gCel_i hs
    obtain ⟨hkx, ⟨hi0, hi1⟩, hs⟩ := gIs_t hs
    have hkx : k.1 = 100 + 2 := Nat.eq_of_beq_eq_true hkx
    obtain ⟨st, rfl, oki, hS⟩ := hS.i1
    obtain ⟨aa, st, rfl, haa, hS⟩ := hS.r1
    obtain ⟨ec, hec, hce⟩ := hW.at hk haa
    obtain ⟨f, rfl, hf⟩ := gCe_a hce hkx (by decide)
    have hi2 : i.toNat < k.2.1 := by omega
    obtain ⟨hf1, hf2⟩ := hf i.toNat hi2
    rw [Int.toNat_of_nonneg hi0] at hf1 hf2
    refine va_cald hx hb hK hP a 2 hec rfl (g_in oki hi0 hi1) hdg ?_
    rw [g_cl oki, hf1]
    exact h0 _ _ _ _ _ _ _ hs ad ls _ ws H locs cells slots hnl hL (gSr.mk (gVr.mkI hf2) hS) hW hP hD hSf hc1 hc2
  · obtain ⟨hu, -⟩ := gIs_t hs
    rw [Bool.and_eq_true] at hu
    exact absurd hu.2 (by decide)
  · exact hs.elim
theorem s_castore (hx : p.tables.exec = Jvm.exec) (hb : c.code = cc) (hK : va_K D cl (gTys cA E) s) (hdg : decode cc pc = .ok (.castore, 1)) (h0 : ∀ pc L S sh μ mc ms, P0 pc L S sh μ mc ms → gSP p l e R s m args below meth c Qf D cl cA a0 A b MC MS pc L S sh μ mc ms) (hs : gAst 102 P0 pc L S sh μ mc ms) : gSP p l e R s m args below meth c Qf D cl cA a0 A b MC MS pc L S sh μ mc ms := by
  intro ad ls st ws H locs cells slots hnl hL hS hW hP hD hSf hc1 hc2
  unfold gAst at hs
  split at hs
  · rename_i v i a S'
    obtain ⟨k, hk, hs⟩ := gCel_i hs
    obtain ⟨hkx, ⟨hi0, hi1⟩, hs⟩ := gIs_t hs
    have hkx : k.1 = 100 + 2 := Nat.eq_of_beq_eq_true hkx
    obtain ⟨st, rfl, okv, hS⟩ := hS.i1
    obtain ⟨st, rfl, oki, hS⟩ := hS.i1
    obtain ⟨aa, st, rfl, haa, hS⟩ := hS.r1
    obtain ⟨ec, hec, hce⟩ := hW.at hk haa
    obtain ⟨f, rfl, hf⟩ := gCe_a hce hkx (by decide)
    have hv : vp_nar .char (Int32.ofInt v) = Int32.ofInt v := by
      obtain ⟨n, rfl⟩ := Int.eq_ofNat_of_zero_le hs.1.1
      have hq := hs.1.2
      rw [Int32.ofInt_eq_ofNat]
      have h2 := (pk_charN (q := n) (by omega)).1
      show vp_nar .char (nI n) = nI n
      unfold vp_nar
      rw [h2]
    have hs : P0 (pc + 1) L S' sh (gW μ a i v) mc ms := hs.2
    refine va_cast hx hb hK hP hD hSf a 2 hec rfl (g_in oki hi0 hi1) hdg fun H1 locs1 hP1 hD1 hS1 => ?_
    rw [hv] at hP1 hD1
    have hW1 := hW.set (μ' := gW μ a i v) (c' := k) (e' := .inl (cA 2, k.2.1, .inl (upd f (Int32.ofInt i).toNatClampNeg (Int32.ofInt v)))) hk hec (by
      refine Or.inr (Or.inl ⟨by omega, by omega, _, by rw [hkx, Nat.add_sub_cancel_left], fun j hj => ?_⟩)
      rw [g_cl oki]
      by_cases hji : j = i.toNat
      · subst hji
        rw [pk_us, Int.toNat_of_nonneg hi0, gW_si]
        exact ⟨rfl, okv⟩
      · rw [pk_un hji, gW_sn _ _ _ _ (by omega)]
        exact hf j hj) (fun j hj => gW_o μ i v hj)
    rw [gSh_set hk] at hW1
    exact h0 _ _ _ _ _ _ _ hs ad ls _ _ H1 locs1 cells slots hnl hL hS hW1 hP1 hD1 hS1 hc1 hc2
  · exact hs.elim
theorem s_alen (hx : p.tables.exec = Jvm.exec) (hb : c.code = cc) (hK : va_K D cl (gTys cA E) s) {u : Bool} {NN : Int} {XX : Int → Int} (hscr : u = true → ∃ (Ls : Nat) (xs : Nat → Int32), va_X b Ls xs s s.heap ∧ b < s.heap.size ∧ ¬ A b ∧ NN = Ls ∧ Ls < 2147483648 ∧ ∀ j : Nat, j < Ls → xs j = Int32.ofInt (XX j) ∧ gOk (XX j)) (hdg : decode cc pc = .ok (.arraylength, 1)) (h0 : ∀ pc L S sh μ mc ms, P0 pc L S sh μ mc ms → gSP p l e R s m args below meth c Qf D cl cA a0 A b MC MS pc L S sh μ mc ms) (hs : match S with
    | .inr (.inl a) :: S' => gCel sh a fun c => gIs (Nat.ble 100 c.1 && Nat.ble c.1 102 && Nat.blt c.2.1 2147483648) (P0 (pc + 1) L (gI c.2.1 :: S') sh μ mc ms)
    | .inr (.inr (.inr 1)) :: S' => gIs u (P0 (pc + 1) L (gI NN :: S') sh μ mc ms)
    | _ => False) : gSP p l e R s m args below meth c Qf D cl cA a0 A b MC MS pc L S sh μ mc ms := by
  intro ad ls st ws H locs cells slots hnl hL hS hW hP hD hSf hc1 hc2
  split at hs
  · rename_i a S'
    obtain ⟨k, hk, hs⟩ := gCel_i hs
    obtain ⟨hkx, hs⟩ := gIs_t hs
    rw [Bool.and_eq_true, Bool.and_eq_true] at hkx
    obtain ⟨⟨h1, h2⟩, h3⟩ := hkx
    have h1 := Nat.le_of_ble_eq_true h1
    have h2 := Nat.le_of_ble_eq_true h2
    have h3 : k.2.1 < 2147483648 := Nat.le_of_ble_eq_true h3
    obtain ⟨aa, st, rfl, haa, hS⟩ := hS.r1
    obtain ⟨ec, hec, hce⟩ := hW.at hk haa
    obtain ⟨t, ht, hkt⟩ : ∃ t, t < 3 ∧ k.1 = 100 + t := ⟨k.1 - 100, by omega, by omega⟩
    obtain ⟨f, rfl, hf⟩ := gCe_a hce hkt ht
    have hv : Int32.ofNat k.2.1 = Int32.ofInt (k.2.1 : Int) := Int32.ofInt_eq_ofNat.symm
    have fin : ∀ ty, (gTys cA E)[t]? = some (cA t, ty) → W p l e R s m args below meth c H locs cells slots Qf (F0 m pc ls (.ref aa :: st)) := fun ty hty =>
      va_alen hx hb hK hP a t hec hty hv hdg (h0 _ _ _ _ _ _ _ hs ad ls _ ws H locs cells slots hnl hL (gSr.mk (gVr.mkI ⟨by omega, by omega⟩) hS) hW hP hD hSf hc1 hc2)
    rcases (show t = 0 ∨ t = 1 ∨ t = 2 by omega) with rfl | rfl | rfl
    · exact fin .int rfl
    · exact fin .boolean rfl
    · exact fin .char rfl
  · rename_i S'
    obtain ⟨hu, hs⟩ := gIs_t hs
    obtain ⟨Ls, xs, hX, hbs, hbA, hN, hLs, hxs⟩ := hscr hu
    obtain ⟨w, st, rfl, hw, hS⟩ := hS.c1
    rw [show w = .ref b from hw]
    refine va_slen hx hb hX hbs hbA hSf hdg ?_
    rw [← Int32.ofInt_eq_ofNat, ← hN]
    exact h0 _ _ _ _ _ _ _ hs ad ls _ ws H locs cells slots hnl hL (gSr.mk (gVr.mkI (by rw [hN]; exact ⟨by omega, by omega⟩)) hS) hW hP hD hSf hc1 hc2
  · exact hs.elim
theorem s_aaload (hx : p.tables.exec = Jvm.exec) (hb : c.code = cc) (hK : va_K D cl (gTys cA E) s) (hdg : decode cc pc = .ok (.aaload, 1)) (h0 : ∀ pc L S sh μ mc ms, P0 pc L S sh μ mc ms → gSP p l e R s m args below meth c Qf D cl cA a0 A b MC MS pc L S sh μ mc ms) (hs : match S with
    | .inl i :: .inr (.inl a) :: S' => gCel sh a fun c => gIs (Nat.beq c.1 103 && Nat.beq c.2.1 c.2.2.length) ((0 ≤ i ∧ i < c.2.1) ∧ gSel i 0 c.2.2 fun v => P0 (pc + 1) L (v :: S') sh μ mc ms)
    | _ => False) : gSP p l e R s m args below meth c Qf D cl cA a0 A b MC MS pc L S sh μ mc ms := by
  intro ad ls st ws H locs cells slots hnl hL hS hW hP hD hSf hc1 hc2
  split at hs
  · rename_i i a S'
    obtain ⟨k, hk, hs⟩ := gCel_i hs
    obtain ⟨hkx, ⟨hi0, hi1⟩, hs⟩ := gIs_t hs
    rw [Bool.and_eq_true] at hkx
    have hkx : k.1 = 103 := Nat.eq_of_beq_eq_true hkx.1
    obtain ⟨st, rfl, oki, hS⟩ := hS.i1
    obtain ⟨aa, st, rfl, haa, hS⟩ := hS.r1
    obtain ⟨ec, hec, hce⟩ := hW.at hk haa
    obtain ⟨hlen, f, rfl, hf⟩ := gCe_q hce hkx
    have hi2 : i.toNat < k.2.2.length := by omega
    have hg : k.2.2[i.toNat]? = some k.2.2[i.toNat] := List.getElem?_eq_getElem hi2
    obtain ⟨v, hv, hs⟩ := gSel_i hs hg (by omega)
    refine va_aldq hx hb hK hP a 3 hec rfl (g_in oki hi0 hi1) hdg ?_
    rw [g_cl oki]
    rcases hf _ _ hg with ⟨h1, h2⟩ | ⟨r, ra, h1, h2, h3⟩
    · rw [h2]
      rw [h1] at hv
      cases hv
      exact h0 _ _ _ _ _ _ _ hs ad ls _ ws H locs cells slots hnl hL (gSr.mk gVr.mkN hS) hW hP hD hSf hc1 hc2
    · rw [h3]
      rw [h1] at hv
      cases hv
      exact h0 _ _ _ _ _ _ _ hs ad ls _ ws H locs cells slots hnl hL (gSr.mk (gVr.mkR h2) hS) hW hP hD hSf hc1 hc2
  · exact hs.elim
theorem s_aastore (hx : p.tables.exec = Jvm.exec) (hb : c.code = cc) (hK : va_K D cl (gTys cA E) s) {x : Nat} {Tf : u_T} {N : Nat} (hcl : cl[x]? = some (E, Tf, N)) (hx1 : x < 100) (hdg : decode cc pc = .ok (.aastore, 1)) (h0 : ∀ pc L S sh μ mc ms, P0 pc L S sh μ mc ms → gSP p l e R s m args below meth c Qf D cl cA a0 A b MC MS pc L S sh μ mc ms) (hs : match S with
    | .inr (.inl r) :: .inl i :: .inr (.inl a) :: S' => gCel sh a fun c => gCel sh r fun c' => gIs (Nat.beq c.1 103 && Nat.beq c'.1 x) ((0 ≤ i ∧ i < c.2.1) ∧ P0 (pc + 1) L S' (sh.set a (c.1, c.2.1, c.2.2.set i.toNat (some (gR r)))) μ mc ms)
    | _ => False) : gSP p l e R s m args below meth c Qf D cl cA a0 A b MC MS pc L S sh μ mc ms := by
  intro ad ls st ws H locs cells slots hnl hL hS hW hP hD hSf hc1 hc2
  split at hs
  · rename_i r i a S'
    obtain ⟨k, hk, hs⟩ := gCel_i hs
    obtain ⟨k', hk', hs⟩ := gCel_i hs
    obtain ⟨hkx, ⟨hi0, hi1⟩, hs⟩ := gIs_t hs
    rw [Bool.and_eq_true] at hkx
    have hkx' : k'.1 = x := Nat.eq_of_beq_eq_true hkx.2
    have hkx : k.1 = 103 := Nat.eq_of_beq_eq_true hkx.1
    obtain ⟨ra, st, rfl, hra, hS⟩ := hS.r1
    obtain ⟨st, rfl, oki, hS⟩ := hS.i1
    obtain ⟨aa, st, rfl, haa, hS⟩ := hS.r1
    obtain ⟨ec, hec, hce⟩ := hW.at hk haa
    obtain ⟨ec', hec', hce'⟩ := hW.at hk' hra
    obtain ⟨hlen, f, rfl, hf⟩ := gCe_q hce hkx
    obtain ⟨-, fs, rfl, -, -⟩ := gCe_o hce' (by omega)
    rw [hkx'] at hec'
    refine va_astq hx hb hK hP hD hSf a 3 r x (r := (E, Tf, N)) hec rfl hec' hcl (g_in oki hi0 hi1) hdg fun H1 locs1 hP1 hD1 hS1 => ?_
    have hW1 := hW.set (μ' := μ) (c' := (k.1, k.2.1, k.2.2.set i.toNat (some (gR r)))) (e' := .inl (cA 3, k.2.1, .inr (.inr (.inr (.inr (va_up f (Int32.ofInt i).toNatClampNeg (some ra))))))) hk hec (by
      refine Or.inr (Or.inr ⟨hkx, by rw [List.length_set]; exact hlen, _, rfl, fun j o ho => ?_⟩)
      rw [g_cl oki]
      by_cases hji : j = i.toNat
      · subst hji
        rw [List.getElem?_set_self (by omega)] at ho
        cases ho
        exact Or.inr ⟨r, ra, rfl, hra, if_pos rfl⟩
      · rw [List.getElem?_set_ne (Ne.symm hji)] at ho
        have h9 : va_up f i.toNat (some ra) j = f j := if_neg hji
        rw [h9]
        exact hf j o ho) (fun j hj => rfl)
    exact h0 _ _ _ _ _ _ _ hs ad ls _ _ H1 locs1 cells slots hnl hL hS hW1 hP1 hD1 hS1 hc1 hc2
  · exact hs.elim
end GH
end
section
/-! ===== new cells, copies, calls, ends ===== -/
def gFs0 : List Nat → List Value
  | [] => []
  | k :: t => (if k < 2 then .int 0 else .null) :: gFs0 t
theorem gFs0_len : ∀ t : List Nat, (gFs0 t).length = t.length
  | [] => rfl
  | _ :: t => by rw [gFs0, List.length_cons, List.length_cons, gFs0_len t]
theorem gIni_len : ∀ t : List Nat, (gIni t).length = t.length
  | [] => rfl
  | _ :: t => by rw [gIni, List.length_cons, List.length_cons, gIni_len t]
theorem gFs0_at : ∀ (t : List Nat) (j : Nat), (gFs0 t)[j]? = (t[j]?).map fun k => if k < 2 then .int 0 else .null
  | [], j => by simp [gFs0]
  | k :: t, 0 => by simp [gFs0]
  | k :: t, j + 1 => by simp [gFs0, gFs0_at t j]
theorem gIni_at : ∀ (t : List Nat) (j : Nat), (gIni t)[j]? = (t[j]?).map fun k => if k < 2 then none else some (gN 0)
  | [], j => by simp [gIni]
  | k :: t, 0 => by simp [gIni]
  | k :: t, j + 1 => by simp [gIni, gIni_at t j]
/-- what the tables say of all fields of a kind of object -/
def gOb (F : Nat → List Nat) (x : Nat) (N : Nat) (ty : Nat → FieldType) : Prop := (F x).length = N ∧ ∀ (k kd : Nat), (F x)[k]? = some kd → (match kd with
    | 0 => ty k = .int
    | 1 => ty k = .boolean
    | 2 => (∃ n, ty k = .object n) ∨ ∃ t, ty k = .array t
    | _ => False)
theorem gSr.wt {ad : List Nat} {b : Nat} : ∀ {S : List GV} {st : List Value}, gSr ad b S st → (st.map fun v => v.category).sum = gWt S
  | [], [], _ => rfl
  | v :: S, w :: st, h => by
    have ih := gSr.wt h.2
    have hv := h.1
    rw [List.map_cons, List.sum_cons, ih]
    rcases v with n | k | n | k
    · rw [hv.1]; rfl
    · obtain ⟨a, -, rfl⟩ := hv; rfl
    · rw [show w = .long (Int64.ofInt n) from hv]; rfl
    · match k, hv with
      | 0, hv => rw [show w = .null from hv]; rfl
      | 1, hv => rw [show w = .ref b from hv]; rfl
theorem gSr.len {ad : List Nat} {b : Nat} : ∀ {S : List GV} {st : List Value}, gSr ad b S st → st.length = S.length
  | [], [], _ => rfl
  | _ :: _, _ :: _, h => by rw [List.length_cons, List.length_cons, gSr.len h.2]
theorem gSr.app {ad : List Nat} {b : Nat} : ∀ {S : List GV} {st : List Value} {S2 : List GV} {st2 : List Value}, gSr ad b S st → gSr ad b S2 st2 → gSr ad b (S ++ S2) (st ++ st2)
  | [], [], _, _, _, h2 => h2
  | _ :: _, _ :: _, _, _, h, h2 => ⟨h.1, gSr.app h.2 h2⟩
theorem gSr.rev {ad : List Nat} {b : Nat} : ∀ {S : List GV} {st : List Value}, gSr ad b S st → gSr ad b S.reverse st.reverse
  | [], [], _ => trivial
  | v :: S, w :: st, h => by
    rw [List.reverse_cons, List.reverse_cons]
    exact (gSr.rev h.2).app ⟨h.1, trivial⟩
theorem gSr.take {ad : List Nat} {b : Nat} : ∀ (n : Nat) {S : List GV} {st : List Value}, gSr ad b S st → gSr ad b (S.take n) (st.take n) ∧ gSr ad b (S.drop n) (st.drop n)
  | 0, _, _, h => ⟨trivial, h⟩
  | n + 1, [], [], _ => ⟨trivial, trivial⟩
  | n + 1, _ :: _, _ :: _, h => ⟨⟨h.1, (gSr.take n h.2).1⟩, (gSr.take n h.2).2⟩
theorem gSr.at {ad : List Nat} {b : Nat} : ∀ {S : List GV} {st : List Value}, gSr ad b S st → ∀ {i : Nat} {v : GV}, S[i]? = some v → ∃ w, st[i]? = some w ∧ gVr ad b v w
  | [], [], _, i, v, hv => by simp at hv
  | u :: S, w :: st, h, 0, v, hv => by
    simp at hv; subst hv
    exact ⟨w, rfl, h.1⟩
  | u :: S, w :: st, h, i + 1, v, hv => by
    obtain ⟨x, h1, h2⟩ := gSr.at h.2 (i := i) (v := v) (by simpa using hv)
    exact ⟨x, by simpa using h1, h2⟩
theorem g_push {ad : List Nat} (q : Nat) (k a : Nat) (h : ad[k]? = some a) : (ad ++ [q])[k]? = some a := by
  rw [List.getElem?_append_left (List.getElem?_eq_some_iff.mp h).1]; exact h
theorem g_pushed {ad : List Nat} {n : Nat} (q : Nat) (h : ad.length = n) : (ad ++ [q])[n]? = some q := by
  subst h
  rw [List.getElem?_append_right (Nat.le_refl _), Nat.sub_self]; rfl
theorem gZ_s (μ : MU) (a : Nat) : gZ μ a a = fun _ => 0 := if_pos rfl
theorem gZ_o (μ : MU) {a k : Nat} (h : k ≠ a) : gZ μ a k = μ k := if_neg h
section GN
variable {p : Program} {l : Launch} {e : Env} {R : Room} {s : State} {m : MethodId} {args : Array Value} {below : List Frame} {meth : Method} {c : Code} {Qf : State → Prop}
variable {D : va_G} {cl : List vw_C} {cA : Nat → ClassId} {a0 : List Nat} {A : Nat → Prop} {b MC MS : Nat} {cc : ByteArray}
variable {pc : Nat} {L S : List GV} {sh : SH} {μ : MU} {mc ms : Nat}
variable {P0 : GP} {E own C : String} {Ts : List Cond} {F : Nat → List Nat}
theorem s_newarray (hx : p.tables.exec = Jvm.exec) (hb : c.code = cc) (hK : va_K D cl (gTys cA E) s) (hA : ∀ q, s.heap.size ≤ q → A q) (hMC : MC ≤ R.cells) (hMS : MS ≤ R.slots) (har : ∀ w ∈ ([.arrayClass .int, .arrayClass .boolean, .arrayClass .char] : List Jvm.Cond), w.before args s = true) {t : ArrayType} (hdg : decode cc pc = .ok (.newarray t, 2)) (h0 : ∀ pc L S sh μ mc ms, P0 pc L S sh μ mc ms → gSP p l e R s m args below meth c Qf D cl cA a0 A b MC MS pc L S sh μ mc ms) (hs : g1 S fun n S' => gIs (decide (0 ≤ n) && decide (n ≤ 100000) && Nat.ble 100 (gKind t) && Nat.ble 1 mc && Nat.ble n.toNat ms) (P0 (pc + 2) L (gR sh.length :: S') (sh ++ [(gKind t, n.toNat, [])]) (gZ μ sh.length) (mc - 1) (ms - n.toNat))) : gSP p l e R s m args below meth c Qf D cl cA a0 A b MC MS pc L S sh μ mc ms := by
  intro ad ls st ws H locs cells slots hnl hL hS hW hP hD hSf hc1 hc2
  obtain ⟨n, S', rfl, hs⟩ := g1_i hs
  obtain ⟨hq, hs⟩ := gIs_t hs
  simp only [Bool.and_eq_true, decide_eq_true_eq] at hq
  obtain ⟨⟨⟨⟨hn0, hn1⟩, hkd⟩, hmc⟩, hms⟩ := hq
  have hmc := Nat.le_of_ble_eq_true hmc
  have hms := Nat.le_of_ble_eq_true hms
  obtain ⟨st, rfl, okn, hS⟩ := hS.i1
  have hneg : ¬ Int32.ofInt n < 0 := by
    rw [show (0 : Int32) = Int32.ofInt 0 from rfl, g_lt okn (by decide)]; omega
  have fin : ∀ (u : Nat) (ty : FieldType), u < 3 → gKind t = 100 + u → (gTys cA E)[u]? = some (cA u, ty) → (∀ (x y : ClassId), va_RA s x ty → va_RA s y ty → x = y) → ∀ (q : Nat) (cA' : ClassId) (H1 : Heap), va_K D cl (gTys cA E ++ [(cA', ty)]) s → va_P D cl (ws ++ [(q, .inl (cA', n.toNat, .inl (fun _ => (0 : Int32))))]) H1 → va_D A (ws ++ [(q, .inl (cA', n.toNat, .inl (fun _ => (0 : Int32))))]) → va_S A s.heap H1 locs →
      W p l e R s m args below meth c H1 locs (cells + 1) (slots + n.toNat) Qf (F0 m (pc + 2) ls (.ref q :: st)) := by
    intro u ty hu hku htu hinj q cA' H1 hK' hP1 hD1 hS1
    have hcA : cA' = cA u := hinj _ _ (hK'.2 4 (cA', ty) rfl).2 (hK.2 u _ htu).2
    subst hcA
    have hW1 := hW.push (μ' := gZ μ sh.length) (q := q) (c := (gKind t, n.toNat, [])) (e := .inl (cA u, n.toNat, .inl (fun _ => (0 : Int32)))) (by
      refine Or.inr (Or.inl ⟨by show 100 ≤ gKind t; omega, by show gKind t < 103; omega, fun _ => 0, ?_, fun j hj => ?_⟩)
      · show _ = Sum.inl (cA (gKind t - 100), n.toNat, Sum.inl fun _ => 0)
        rw [hku, Nat.add_sub_cancel_left]
      · rw [gZ_s]; exact ⟨rfl, show gOk 0 by decide⟩) (fun j hj => gZ_o μ hj)
    exact h0 _ _ _ _ _ _ _ hs (ad ++ [q]) ls _ _ H1 locs (cells + 1) (slots + n.toNat) hnl (hL.mono (g_push q)) (gSr.mk (gVr.mkR (g_pushed q hW.len)) (hS.mono (g_push q))) hW1 hP1 hD1 hS1 (by omega) (by omega)
  cases t with
  | int => exact va_newa (atype := .int) (ty := .int) (N' := n.toNat) (a0 := (n.toNat, .inl (fun _ => (0 : Int32)))) hx hb (har (.arrayClass .int) (by simp)) rfl hK hP hD hSf hA (fun _ => rfl) hneg (g_cl okn) (show n.toNat * 4 ≤ 536870912 by omega) (by omega) (by omega) hdg (fin 0 .int (by decide) rfl rfl (fun x y h1 h2 => Option.some.inj (h1.symm.trans h2)))
  | boolean => exact va_newa (atype := .boolean) (ty := .boolean) (N' := n.toNat) (a0 := (n.toNat, .inl (fun _ => (0 : Int32)))) hx hb (har (.arrayClass .boolean) (by simp)) rfl hK hP hD hSf hA (fun _ => rfl) hneg (g_cl okn) (show n.toNat * 1 ≤ 536870912 by omega) (by omega) (by omega) hdg (fin 1 .boolean (by decide) rfl rfl (fun x y h1 h2 => Option.some.inj (h1.symm.trans h2)))
  | char => exact va_newa (atype := .char) (ty := .char) (N' := n.toNat) (a0 := (n.toNat, .inl (fun _ => (0 : Int32)))) hx hb (har (.arrayClass .char) (by simp)) rfl hK hP hD hSf hA (fun _ => rfl) hneg (g_cl okn) (show n.toNat * 2 ≤ 536870912 by omega) (by omega) (by omega) hdg (fin 2 .char (by decide) rfl rfl (fun x y h1 h2 => Option.some.inj (h1.symm.trans h2)))
  | _ => exact absurd hkd (by decide)
theorem s_anew (hx : p.tables.exec = Jvm.exec) (hb : c.code = cc) (hK : va_K D cl (gTys cA E) s) (hA : ∀ q, s.heap.size ≤ q → A q) (hMC : MC ≤ R.cells) (hMS : MS ≤ R.slots) {idx : Nat} (hown : s.vm.findClass own = some m.cls) (hcl : (Cond.classLink own idx E).before args s = true) (hAO : va_AO E s) (hdg : decode cc pc = .ok (.anewarray idx, 3)) (h0 : ∀ pc L S sh μ mc ms, P0 pc L S sh μ mc ms → gSP p l e R s m args below meth c Qf D cl cA a0 A b MC MS pc L S sh μ mc ms) (hs : g1 S fun n S' => gIs (decide (0 ≤ n) && decide (n ≤ 100000) && Nat.ble 1 mc && Nat.ble n.toNat ms) (P0 (pc + 3) L (gR sh.length :: S') (sh ++ [(103, n.toNat, List.replicate n.toNat (some (gN 0)))]) (gZ μ sh.length) (mc - 1) (ms - n.toNat))) : gSP p l e R s m args below meth c Qf D cl cA a0 A b MC MS pc L S sh μ mc ms := by
  intro ad ls st ws H locs cells slots hnl hL hS hW hP hD hSf hc1 hc2
  obtain ⟨n, S', rfl, hs⟩ := g1_i hs
  obtain ⟨hq, hs⟩ := gIs_t hs
  simp only [Bool.and_eq_true, decide_eq_true_eq] at hq
  obtain ⟨⟨⟨hn0, hn1⟩, hmc⟩, hms⟩ := hq
  have hmc := Nat.le_of_ble_eq_true hmc
  have hms := Nat.le_of_ble_eq_true hms
  obtain ⟨st, rfl, okn, hS⟩ := hS.i1
  have hneg : ¬ Int32.ofInt n < 0 := by
    rw [show (0 : Int32) = Int32.ofInt 0 from rfl, g_lt okn (by decide)]; omega
  refine va_newq hx hb hown hcl hAO hK hP hD hSf hA hneg (g_cl okn) (by omega) (by omega) (by omega) hdg fun q cA' H1 hK' hP1 hD1 hS1 => ?_
  have hcA : cA' = cA 3 := by
    obtain ⟨_, _, _, _, _, h1⟩ := (hK'.2 4 (cA', .object E) rfl).2
    obtain ⟨_, _, _, _, _, h2⟩ := (hK.2 3 (cA 3, .object E) rfl).2
    exact Option.some.inj (h1.symm.trans h2)
  subst hcA
  have hW1 := hW.push (μ' := gZ μ sh.length) (q := q) (c := (103, n.toNat, List.replicate n.toNat (some (gN 0)))) (e := .inl (cA 3, n.toNat, .inr (.inr (.inr (.inr (fun _ => none)))))) (by
    refine Or.inr (Or.inr ⟨rfl, List.length_replicate, fun _ => none, rfl, fun j o ho => Or.inl ⟨?_, rfl⟩⟩)
    have h9 := (List.getElem?_eq_some_iff.mp ho)
    obtain ⟨h10, h11⟩ := h9
    rw [← h11]
    exact List.getElem_replicate ..) (fun j hj => gZ_o μ hj)
  exact h0 _ _ _ _ _ _ _ hs (ad ++ [q]) ls _ _ H1 locs (cells + 1) (slots + n.toNat) hnl (hL.mono (g_push q)) (gSr.mk (gVr.mkR (g_pushed q hW.len)) (hS.mono (g_push q))) hW1 hP1 hD1 hS1 (by omega) (by omega)
theorem s_new (hx : p.tables.exec = Jvm.exec) (hb : c.code = cc) (hK : va_K D cl (gTys cA E) s) (hA : ∀ q, s.heap.size ≤ q → A q) (hMC : MC ≤ R.cells) (hMS : MS ≤ R.slots) {idx x : Nat} {y : Int} {Tf : u_T} {N : Nat} {ty : Nat → FieldType} (hts : ∀ w ∈ Ts, w.before args s = true) (hown : s.vm.findClass own = some m.cls) (hcl : cl[x]? = some (C, Tf, N)) (hx1 : x < 100) (hy : y.toNat = N) (hin : ∀ w ∈ u_ws C Tf N, w ∈ Ts) (hty : ∀ j, j < N → parseFieldDescriptor (Tf j).2.2.1 = some (ty j)) (hob : gOb F x N ty) (hlk : (Cond.classLink own idx C).before args s = true) (hins : (Cond.instantiable C N).before args s = true) (hini : (Cond.initialized C).before args s = true) (hdg : decode cc pc = .ok (.new idx, 3)) (h0 : ∀ pc L S sh μ mc ms, P0 pc L S sh μ mc ms → gSP p l e R s m args below meth c Qf D cl cA a0 A b MC MS pc L S sh μ mc ms) (hs : gIs (Nat.ble 1 mc && Nat.ble y.toNat ms) (P0 (pc + 3) L (gR sh.length :: S) (sh ++ [(x, y.toNat, gIni (F x))]) (gZ μ sh.length) (mc - 1) (ms - y.toNat))) : gSP p l e R s m args below meth c Qf D cl cA a0 A b MC MS pc L S sh μ mc ms := by
  intro ad ls st ws H locs cells slots hnl hL hS hW hP hD hSf hc1 hc2
  obtain ⟨hq, hs⟩ := gIs_t hs
  rw [Bool.and_eq_true] at hq
  have hmc := Nat.le_of_ble_eq_true hq.1
  have hms := Nat.le_of_ble_eq_true hq.2
  rw [hy] at hs hms
  obtain ⟨hlen, hkd⟩ := hob
  have hdv : ∀ j, j < N → defaultValue (ty j) = vp_V (gFs0 (F x)) j := by
    intro j hj
    have h1 : (F x)[j]? = some (F x)[j] := List.getElem?_eq_getElem (by omega)
    have h2 := hkd j _ h1
    have h3 : (gFs0 (F x))[j]? = some (if (F x)[j] < 2 then .int 0 else .null) := by rw [gFs0_at, h1]; rfl
    show _ = (gFs0 (F x)).getD j .null
    rw [List.getD_eq_getElem?_getD, h3]
    match h9 : (F x)[j], h2 with
    | 0, h2 => rw [show ty j = .int from h2]; rfl
    | 1, h2 => rw [show ty j = .boolean from h2]; rfl
    | 2, h2 =>
      rcases h2 with ⟨n, e1⟩ | ⟨n, e1⟩ <;> rw [e1] <;> rfl
  refine va_new hx hb hts hin ty hty hown hlk hins hini hK hP hD hSf hA hcl hdv (by omega) (by omega) hdg fun q H1 hP1 hD1 hS1 => ?_
  have hW1 := hW.push (μ' := gZ μ sh.length) (q := q) (c := (x, N, gIni (F x))) (e := .inr (x, gFs0 (F x))) (by
    refine Or.inl ⟨hx1, by rw [gIni_len]; exact hlen, _, rfl, by rw [gFs0_len]; exact hlen, fun j o ho => ?_⟩
    have ho : (gIni (F x))[j]? = some o := ho
    rw [gIni_at] at ho
    rw [gFs0_at]
    cases hkk : (F x)[j]? with
    | none => rw [hkk] at ho; cases ho
    | some kd =>
      rw [hkk] at ho
      cases ho
      by_cases h2 : kd < 2
      · refine ⟨.int 0, by simp [h2], ?_⟩
        dsimp only
        rw [if_pos h2]
        show gVr _ b (gI (gZ μ sh.length sh.length j)) _
        rw [gZ_s]
        exact ⟨rfl, show gOk 0 by decide⟩
      · refine ⟨.null, by simp [h2], ?_⟩
        dsimp only
        rw [if_neg h2]
        exact ⟨rfl, rfl⟩) (fun j hj => gZ_o μ hj)
  exact h0 _ _ _ _ _ _ _ hs (ad ++ [q]) ls _ _ H1 locs (cells + 1) (slots + N) hnl (hL.mono (g_push q)) (gSr.mk (gVr.mkR (g_pushed q hW.len)) (hS.mono (g_push q))) hW1 hP1 hD1 hS1 (by omega) (by omega)
theorem s_copy (hx : p.tables.exec = Jvm.exec) (hb : c.code = cc) (hK : va_K D cl (gTys cA E) s) {idx : Nat} (hown : s.vm.findClass own = some m.cls) (hlink : (Cond.methodLink own idx arraycopyName).before args s = true) (hnat : (Cond.native arraycopyName).before args s = true) (hstat : (Cond.static arraycopyName).before args s = true) (hini : (Cond.initialized "java/lang/System").before args s = true) (hR1 : 1 ≤ R.frames) (hR2 : 40 ≤ R.locals) (hdg : decode cc pc = .ok (.invokestatic idx, 3)) (h0 : ∀ pc L S sh μ mc ms, P0 pc L S sh μ mc ms → gSP p l e R s m args below meth c Qf D cl cA a0 A b MC MS pc L S sh μ mc ms) (hs : gCopy P0 pc L S sh μ mc ms) : gSP p l e R s m args below meth c Qf D cl cA a0 A b MC MS pc L S sh μ mc ms := by
  intro ad ls st ws H locs cells slots hnl hL hS hW hP hD hSf hc1 hc2
  unfold gCopy at hs
  split at hs
  · rename_i n dp bb sp aa S'
    obtain ⟨ka, hka, hs⟩ := gCel_i hs
    obtain ⟨kb, hkb, hs⟩ := gCel_i hs
    obtain ⟨hq, ⟨h1, h2, h3, h4, h5⟩, hs⟩ := gIs_t hs
    rw [Bool.and_eq_true, Bool.and_eq_true] at hq
    have hqa : ka.1 = 100 + 0 := Nat.eq_of_beq_eq_true hq.1.1
    have hqb : kb.1 = 100 + 0 := Nat.eq_of_beq_eq_true hq.1.2
    have hwt := Nat.le_of_ble_eq_true hq.2
    obtain ⟨st, rfl, okn, hS⟩ := hS.i1
    obtain ⟨st, rfl, okd, hS⟩ := hS.i1
    obtain ⟨ba, st, rfl, hba, hS⟩ := hS.r1
    obtain ⟨st, rfl, oks, hS⟩ := hS.i1
    obtain ⟨aaa, st, rfl, haa, hS⟩ := hS.r1
    obtain ⟨ea, hea, hca⟩ := hW.at hka haa
    obtain ⟨eb, heb, hcb⟩ := hW.at hkb hba
    obtain ⟨f, rfl, hf⟩ := gCe_a hca hqa (by decide)
    obtain ⟨g, rfl, hg⟩ := gCe_a hcb hqb (by decide)
    have hnn : ∀ {z : Int}, gOk z → 0 ≤ z → ¬ Int32.ofInt z < 0 := fun {z} hz h => by
      rw [show (0 : Int32) = Int32.ofInt 0 from rfl, g_lt hz (by decide)]; omega
    obtain ⟨lv, hlv, hlv2⟩ := id hL
    refine va_copyi hx hb (by rw [hnl]; exact hlv.1.symm) hown hlink hnat hstat hini hK hP hD hSf aa bb 0 0 hea heb rfl rfl rfl (hnn oks h1) (hnn okd h2) (hnn okn h3) (by rw [g_cl oks, g_cl okn]; omega) (by rw [g_cl okd, g_cl okn]; omega) (fun _ _ => rfl) hR1 (by rw [hS.wt, show nativeFrameWords "java/lang/System" "arraycopy" 5 = 7 from by decide]; omega) hdg fun H1 locs1 hP1 hD1 hS1 => ?_
    have hW1 := hW.set (μ' := gCp μ aa sp bb dp n) (c' := kb) (e' := .inl (cA 0, kb.2.1, .inl (va_cpy f g (Int32.ofInt sp).toNatClampNeg (Int32.ofInt dp).toNatClampNeg (Int32.ofInt n).toNatClampNeg))) hkb heb (by
      refine Or.inr (Or.inl ⟨by omega, by omega, _, by rw [hqb], fun j hj => ?_⟩)
      rw [g_cl oks, g_cl okd, g_cl okn]
      have hrow : gCp μ aa sp bb dp n bb = fun j => if dp ≤ j ∧ j < dp + n then μ aa (sp + (j - dp)) else μ bb j := if_pos rfl
      rw [hrow]
      by_cases hin : dp ≤ (j : Int) ∧ (j : Int) < dp + n
      · rw [pk_cpy_in (by omega) (by omega)]
        have h9 := hf (sp.toNat + (j - dp.toNat)) (by omega)
        rw [show ((sp.toNat + (j - dp.toNat) : Nat) : Int) = sp + (j - dp) by omega] at h9
        simp only [hin, and_self, if_true]
        exact h9
      · rw [pk_cpy_out (by omega)]
        simp only [hin, if_false]
        exact hg j hj) (fun j hj => if_neg hj)
    rw [gSh_set hkb] at hW1
    exact h0 _ _ _ _ _ _ _ hs ad ls _ _ H1 locs1 cells slots hnl hL hS hW1 hP1 hD1 hS1 hc1 hc2
  · exact hs.elim
theorem s_objInit (hx : p.tables.exec = Jvm.exec) (hb : c.code = cc) {idx : Nat} (hown : s.vm.findClass own = some m.cls) (hlink : (Cond.methodLink own idx Lib.objectInit).before args s = true) (hinst : (Cond.instanceMethod Lib.objectInit).before args s = true) (hcode : (Cond.code Lib.objectInit ⟨#[0xb1]⟩ 1 none).before args s = true) (hR1 : 1 ≤ R.frames) (hR2 : 40 ≤ R.locals) (hdg : decode cc pc = .ok (.invokespecial idx, 3)) (h0 : ∀ pc L S sh μ mc ms, P0 pc L S sh μ mc ms → gSP p l e R s m args below meth c Qf D cl cA a0 A b MC MS pc L S sh μ mc ms) (hs : gRf S fun _ S' => gIs (Nat.ble (gWt S') 8) (P0 (pc + 3) L S' sh μ mc ms)) : gSP p l e R s m args below meth c Qf D cl cA a0 A b MC MS pc L S sh μ mc ms := by
  intro ad ls st ws H locs cells slots hnl hL hS hW hP hD hSf hc1 hc2
  obtain ⟨a, S', rfl, hs⟩ := gRf_i hs
  obtain ⟨hq, hs⟩ := gIs_t hs
  have hq := Nat.le_of_ble_eq_true hq
  obtain ⟨aa, st, rfl, haa, hS⟩ := hS.r1
  obtain ⟨lv, hlv, hlv2⟩ := id hL
  refine W.objInit hx hb hown hlink hinst hcode rfl (by rw [hnl]; exact hlv.1) rfl hdg hR1 (by rw [hS.wt]; show 2 * 0 + _ + 12 ≤ _; omega) ?_
  exact W.eq rfl (h0 _ _ _ _ _ _ _ hs ad ls st ws H locs cells slots hnl hL hS hW hP hD hSf hc1 hc2)
/-- behind any call -/
theorem g_back {Qa : State → Outcome → State → Prop} {mc' ms' cells slots : Nat} {H : Heap} {locs : List Loc} {ls : Array Slot} {st0 rest : List Value} {free : Addr → Prop} (hr : va_Run p l e R s m args below meth c H locs cells slots mc' ms' (F0 m pc ls st0) rest Qa free)
    (kk : ∀ (v : Option Value) (u t : State) (H1 : Heap) (L1 : List Loc), u.heap = H → t.heap = H1 → s.vm.Alike t.vm → Qa u (.returned v) t → (∀ q ∈ L1, free q.base) → W p l e R s m args below meth c H1 (locs ++ L1) (cells + mc') (slots + ms') Qf (F0 m (pc + 3) ls (v.toList ++ rest))) : W p l e R s m args below meth c H locs cells slots Qf (F0 m pc ls st0) := by
  intro T hT X
  obtain ⟨v, st₀, t, T', L1, e0, X', hL, e1, e2, hq, st⟩ := hr T hT X
  obtain ⟨t2, a1, b1⟩ := kk v st₀ t T'.heap L1 e0 e1.symm (by rw [← e2]; exact X'.warmed.alike) hq hL T' rfl X'
  exact ⟨t2, st t2 a1, b1⟩
def gVo (ad : List Nat) (b : Nat) : Option GV → Option Value → Prop
  | none, none => True
  | some g, some v => gVr ad b g v
  | _, _ => False
theorem gVo.sr {ad : List Nat} {b : Nat} {r : Option GV} {v : Option Value} (h : gVo ad b r v) {S : List GV} {st : List Value} (hS : gSr ad b S st) : gSr ad b (r.toList ++ S) (v.toList ++ st) := by
  cases r with
  | none =>
    cases v with
    | none => exact hS
    | some v => exact h.elim
  | some g =>
    cases v with
    | none => exact h.elim
    | some v => exact ⟨h, hS⟩
/-- what is known of the tables at every state of the run -/
def gKx (D : va_G) (cl : List vw_C) (cA : Nat → ClassId) (E : String) (nests : List (String × Nat × MethodName × String)) (U : State) : Prop := va_K D cl (gTys cA E) U ∧ (∀ q ∈ nests, va_Nw (.methodLinkNest q.1 q.2.1 q.2.2.1 q.2.2.2) U) ∧ va_AO E U
theorem gKx.same {cl : List vw_C} {nests : List (String × Nat × MethodName × String)} {u U : State} (h : gKx D cl cA E nests u) (he : u.vm = U.vm) : gKx D cl cA E nests U := by
  have hal : u.vm.Alike U.vm := by rw [he]; exact Vm.Alike.refl _
  exact ⟨va_K.moved hal h.1, fun q hq => va_Nw.same rfl he (h.2.1 q hq), va_AO.moved hal h.2.2⟩
theorem gKx.warm {cl : List vw_C} {nests : List (String × Nat × MethodName × String)} {u U : State} (h : gKx D cl cA E nests u) (hw : u.WarmedH U.vm) : gKx D cl cA E nests U :=
  ⟨va_K.moved hw.alike h.1, fun q hq => va_Nw.warmM hw (h.2.1 q hq), va_AO.moved hw.alike h.2.2⟩
def gPre (D : va_G) (cl : List vw_C) (cA : Nat → ClassId) (E : String) (nests : List (String × Nat × MethodName × String)) (A : Nat → Prop) (ws : va_W) (U : State) : Prop := va_P D cl ws U.heap ∧ va_D A ws ∧ gKx D cl cA E nests U ∧ ∀ q, U.heap.size ≤ q → A q
def gPost (D : va_G) (cl : List vw_C) (cA : Nat → ClassId) (A : Nat → Prop) (b : Nat) (ad : List Nat) (Q : GQ) : Array Value → State → Outcome → State → Prop := fun _ u oc t =>
  (∃ (r : Option GV) (sh' : SH) (μ' : MU) (ad' : List Nat) (ws' : va_W) (v : Option Value), oc = .returned v ∧ gVo ad' b r v ∧ Q r sh' μ' ∧ gWr cA ad ad' b sh' μ' ws' ∧ va_P D cl ws' t.heap ∧ va_D A ws') ∧ va_F A u t
/-- the contract of the method j, from a call of the small machine -/
def gCt (l : Launch) (T : Nat → GM) (Yf : Nat → MethodName) (gws : Nat → List Cond) (rm : Nat → Room) (D : va_G) (cl : List vw_C) (cA : Nat → ClassId) (E : String) (nests : List (String × Nat × MethodName × String)) (A : Nat → Prop) (b : Nat) (call : GCall) : Prop :=
  ∀ (j : Nat) (as : List GV) (sh : SH) (μ : MU) (Q : GQ), call j as sh μ Q → ∀ (ad : List Nat) (ws : va_W) (st : List Value), gSr ad b as st → gWr cA ad ad b sh μ ws →
    Met l (Yf j) (gws j) (rm j) (va_Pc st (gPre D cl cA E nests A ws)) (gPost D cl cA A b ad Q) (T j).2.2.2.2.1 (T j).2.2.2.2.2.1 A
theorem gPre.blind {st : List Value} {nests : List (String × Nat × MethodName × String)} {ws : va_W} : FrameBlind (va_Pc st (gPre D cl cA E nests A ws)) := fun a U g mk h => by
  obtain ⟨h1, h2, h3, h4, h5⟩ := h
  exact ⟨h1, h2, h3, h4.same rfl, h5⟩
/-- the walk behind a call of the small machine -/
theorem s_inv {mc' ms' : Nat} {H : Heap} {locs : List Loc} {cells slots : Nat} {ls : Array Slot} {st0 st2 : List Value} {ad : List Nat} {S2 : List GV} {Qa : State → Outcome → State → Prop}
    (h0 : ∀ pc L S sh μ mc ms, P0 pc L S sh μ mc ms → gSP p l e R s m args below meth c Qf D cl cA a0 A b MC MS pc L S sh μ mc ms) (hnl : c.maxLocals = L.length) (hL : gLr ad b L ls) {sh0 : SH} {μ0 : MU} {ws0 : va_W} (hW0 : gWr cA a0 ad b sh0 μ0 ws0) (hS2 : gSr ad b S2 st2) (hSf : va_S A s.heap H locs) (hm : mc' ≤ mc) (hm2 : ms' ≤ ms) (hc1 : cells + mc ≤ MC) (hc2 : slots + ms ≤ MS)
    (hQa : ∀ u v t, Qa u (.returned v) t → gPost D cl cA A b ad (fun r sh' μ' => P0 (pc + 3) L (r.toList ++ S2) sh' μ' (mc - mc') (ms - ms')) #[] u (.returned v) t)
    (hr : va_Run p l e R s m args below meth c H locs cells slots mc' ms' (F0 m pc ls st0) st2 Qa A) : W p l e R s m args below meth c H locs cells slots Qf (F0 m pc ls st0) := by
  refine g_back hr fun v u t H1 L1 hu ht hal hq hL1 => ?_
  obtain ⟨⟨r, sh', μ', ad', ws', v', hv, hvo, hP0, hW1, hP1, hD1⟩, hF⟩ := hQa u v t hq
  cases hv
  rw [ht] at hP1
  have hmo := hW1.2.2.2
  have hW1 := hW1.base (fun k a q => hmo k a (hW0.2.2.2 k a q))
  refine h0 _ _ _ _ _ _ _ hP0 ad' ls _ ws' H1 (locs ++ L1) (cells + mc') (slots + ms') hnl (hL.mono hmo) (hvo.sr (hS2.mono hmo)) hW1 hP1 hD1 ⟨?_, fun q h1 h2 => ?_, fun q hq => ?_⟩ (by omega) (by omega)
  · have := hF.1; rw [hu, ht] at this; exact Nat.le_trans hSf.1 this
  · have := hF.2 q (by rw [hu]; exact Nat.lt_of_lt_of_le h1 hSf.1) h2
    rw [hu, ht] at this
    rw [this]
    exact hSf.2.1 q h1 h2
  · rcases List.mem_append.mp hq with h | h
    · exact hSf.2.2 q h
    · exact hL1 q h
theorem gInv_i {T : Nat → GM} {call : GCall} {x n : Nat} (hs : gInv T call P0 pc L S sh μ mc ms x n) : n ≤ S.length ∧ gWt (S.drop n) ≤ 8 ∧ (T x).2.2.2.2.1 ≤ mc ∧ (T x).2.2.2.2.2.1 ≤ ms ∧ call x (S.take n).reverse sh μ (fun r sh' μ' => P0 (pc + 3) L (r.toList ++ S.drop n) sh' μ' (mc - (T x).2.2.2.2.1) (ms - (T x).2.2.2.2.2.1)) := by
  obtain ⟨h, hs⟩ := gIs_t hs
  simp only [Bool.and_eq_true] at h
  exact ⟨Nat.le_of_ble_eq_true h.1.1.1, Nat.le_of_ble_eq_true h.1.1.2, Nat.le_of_ble_eq_true h.1.2, Nat.le_of_ble_eq_true h.2, hs⟩
theorem s_static (hx : p.tables.exec = Jvm.exec) (hb : c.code = cc) {T : Nat → GM} {Yf : Nat → MethodName} {gws : Nat → List Cond} {rm : Nat → Room} {nests : List (String × Nat × MethodName × String)} {call : GCall} (hct : gCt l T Yf gws rm D cl cA E nests A b call) (hK : gKx D cl cA E nests s) (hA : ∀ q, s.heap.size ≤ q → A q) (hMC : MC ≤ R.cells) (hMS : MS ≤ R.slots) (hts : ∀ w ∈ Ts, w.before args s = true) (hown : s.vm.findClass own = some m.cls) {idx x n : Nat} {bytes : ByteArray} {ret : Option FieldType} (cw : CallB R s args own idx (Yf x) bytes (T x).2.2.1 ret (gws x) (rm x) (T x).2.2.2.2.1 (T x).2.2.2.2.2.1 n ∧ (Cond.static (Yf x)).before args s = true) (hdg : decode cc pc = .ok (.invokestatic idx, 3)) (h0 : ∀ pc L S sh μ mc ms, P0 pc L S sh μ mc ms → gSP p l e R s m args below meth c Qf D cl cA a0 A b MC MS pc L S sh μ mc ms) (hs : gInv T call P0 pc L S sh μ mc ms x n) : gSP p l e R s m args below meth c Qf D cl cA a0 A b MC MS pc L S sh μ mc ms := by
  intro ad ls st ws H locs cells slots hnl hL hS hW hP hD hSf hc1 hc2
  obtain ⟨hn, hwt, hm, hm2, hcall⟩ := gInv_i hs
  obtain ⟨lv, hlv, hlv2⟩ := id hL
  have hlsz : ls.size = c.maxLocals := by rw [hnl]; exact hlv.1
  have hU : ∀ U : State, U.heap = H → s.WarmedH U.vm → gPre D cl cA E nests A ws U := fun U hU hw => ⟨by rw [hU]; exact hP, hD, hK.warm hw, fun q hq => hA q (Nat.le_trans hSf.1 (by rw [← hU]; exact hq))⟩
  obtain ⟨h1, h2⟩ := hS.take n
  have h3 := h1.rev
  have hst : st = (st.take n).reverse.reverse ++ st.drop n := by rw [List.reverse_reverse, List.take_append_drop]
  have hlen : (st.take n).reverse.length = n := by rw [List.length_reverse, List.length_take, hS.len]; omega
  have hM := hct x _ _ _ _ hcall ad ws _ h3 (hW.base (fun _ _ q => q))
  exact s_inv h0 hnl hL hW h2 hSf hm hm2 hc1 hc2 (fun u v t hq => hq) (va_runS (As := (st.take n).reverse) (rest := st.drop n) ⟨hx, hb, rfl, hown, hts⟩ hM cw ⟨gPre.blind, fun U hU' hw => ⟨rfl, hU U hU' hw⟩⟩ rfl hlen hlsz hst (by rw [h2.wt]; show 2 * 0 + _ ≤ 8; omega) hdg ⟨by omega, by omega⟩)
theorem s_virtual (hx : p.tables.exec = Jvm.exec) (hb : c.code = cc) {T : Nat → GM} {Yf : Nat → MethodName} {gws : Nat → List Cond} {rm : Nat → Room} {nests : List (String × Nat × MethodName × String)} {call : GCall} (hct : gCt l T Yf gws rm D cl cA E nests A b call) (hK : gKx D cl cA E nests s) (hA : ∀ q, s.heap.size ≤ q → A q) (hMC : MC ≤ R.cells) (hMS : MS ≤ R.slots) (hts : ∀ w ∈ Ts, w.before args s = true) (hown : s.vm.findClass own = some m.cls) {idx x n : Nat} {bytes : ByteArray} {ret : Option FieldType} (cw : CallW R s args own C idx (Yf x) bytes (T x).2.2.1 ret (gws x) (rm x) (T x).2.2.2.2.1 (T x).2.2.2.2.2.1 n) {Tf : u_T} {N : Nat} (hcl : cl[(T x).1]? = some (C, Tf, N)) (hc100 : (T x).1 < 100) (hdg : decode cc pc = .ok (.invokevirtual idx, 3)) (h0 : ∀ pc L S sh μ mc ms, P0 pc L S sh μ mc ms → gSP p l e R s m args below meth c Qf D cl cA a0 A b MC MS pc L S sh μ mc ms) (hs : match S[n]? with
    | some (.inr (.inl a)) => gCel sh a fun c => gIs (Nat.ble 1 (n + 1) && Nat.beq c.1 (T x).1) (gInv T call P0 pc L S sh μ mc ms x (n + 1))
    | _ => False) : gSP p l e R s m args below meth c Qf D cl cA a0 A b MC MS pc L S sh μ mc ms := by
  intro ad ls st ws H locs cells slots hnl hL hS hW hP hD hSf hc1 hc2
  split at hs
  · rename_i r hr
    obtain ⟨k, hk, hs⟩ := gCel_i hs
    obtain ⟨hq, hs⟩ := gIs_t hs
    rw [Bool.and_eq_true] at hq
    have hkx : k.1 = (T x).1 := Nat.eq_of_beq_eq_true hq.2
    obtain ⟨hn, hwt, hm, hm2, hcall⟩ := gInv_i hs
    obtain ⟨lv, hlv, hlv2⟩ := id hL
    have hlsz : ls.size = c.maxLocals := by rw [hnl]; exact hlv.1
    have hU : ∀ U : State, U.heap = H → s.WarmedH U.vm → gPre D cl cA E nests A ws U := fun U hU hw => ⟨by rw [hU]; exact hP, hD, hK.warm hw, fun q hq => hA q (Nat.le_trans hSf.1 (by rw [← hU]; exact hq))⟩
    obtain ⟨h1, h2⟩ := hS.take (n + 1)
    have h3 := h1.rev
    obtain ⟨w, hw, a, ha, rfl⟩ := hS.at hr
    obtain ⟨ec, hec, hce⟩ := hW.at hk ha
    obtain ⟨-, fs, rfl, -, -⟩ := gCe_o hce (by omega)
    rw [hkx] at hec
    have hlst := hS.len
    have htk : st.take (n + 1) = st.take n ++ [.ref a] := by rw [List.take_succ, hw]; rfl
    have hrev : (st.take (n + 1)).reverse = .ref a :: (st.take n).reverse := by rw [htk, List.reverse_append]; rfl
    have hst : st = (st.take n).reverse.reverse ++ .ref a :: st.drop (n + 1) := by
      rw [List.reverse_reverse]
      have := (List.take_append_drop (n + 1) st).symm
      rw [htk, List.append_assoc] at this
      exact this
    have hlen : (st.take n).reverse.length = n := by rw [List.length_reverse, List.length_take, hlst]; omega
    have hM := hct x _ _ _ _ hcall ad ws _ h3 (hW.base (fun _ _ q => q))
    refine s_inv h0 hnl hL hW h2 hSf hm hm2 hc1 hc2 (fun u v t hq => hq) (va_runV (C := C) (b := a) (As := (st.take n).reverse) (rest := st.drop (n + 1)) ⟨hx, hb, rfl, hown, hts⟩ hM cw ⟨gPre.blind, va_recv hK.1 hP hcl hec, fun U hU' hw => ⟨by rw [hrev], hU U hU' hw⟩⟩ rfl hlen hlsz hst (by rw [h2.wt]; show 2 * 0 + _ ≤ 8; omega) hdg ⟨by omega, by omega⟩)
  · exact hs.elim
theorem s_special (hx : p.tables.exec = Jvm.exec) (hb : c.code = cc) {T : Nat → GM} {Yf : Nat → MethodName} {gws : Nat → List Cond} {rm : Nat → Room} {nests : List (String × Nat × MethodName × String)} {call : GCall} (hct : gCt l T Yf gws rm D cl cA E nests A b call) (hK : gKx D cl cA E nests s) (hA : ∀ q, s.heap.size ≤ q → A q) (hMC : MC ≤ R.cells) (hMS : MS ≤ R.slots) (hts : ∀ w ∈ Ts, w.before args s = true) (hown : s.vm.findClass own = some m.cls) {idx x n : Nat} {bytes : ByteArray} {ret : Option FieldType} (cw : CallB R s args own idx (Yf x) bytes (T x).2.2.1 none (gws x) (rm x) (T x).2.2.2.2.1 (T x).2.2.2.2.2.1 n ∧ (Yf x).name = "<init>" ∧ (Cond.instanceMethod (Yf x)).before args s = true) (hdg : decode cc pc = .ok (.invokespecial idx, 3)) (h0 : ∀ pc L S sh μ mc ms, P0 pc L S sh μ mc ms → gSP p l e R s m args below meth c Qf D cl cA a0 A b MC MS pc L S sh μ mc ms) (hs : match S[n]? with
    | some (.inr (.inl _)) => gIs (Nat.ble 1 (n + 1)) (gInv T call P0 pc L S sh μ mc ms x (n + 1))
    | _ => False) : gSP p l e R s m args below meth c Qf D cl cA a0 A b MC MS pc L S sh μ mc ms := by
  intro ad ls st ws H locs cells slots hnl hL hS hW hP hD hSf hc1 hc2
  split at hs
  · rename_i r hr
    obtain ⟨hq, hs⟩ := gIs_t hs
    obtain ⟨hn, hwt, hm, hm2, hcall⟩ := gInv_i hs
    obtain ⟨lv, hlv, hlv2⟩ := id hL
    have hlsz : ls.size = c.maxLocals := by rw [hnl]; exact hlv.1
    have hU : ∀ U : State, U.heap = H → s.WarmedH U.vm → gPre D cl cA E nests A ws U := fun U hU hw => ⟨by rw [hU]; exact hP, hD, hK.warm hw, fun q hq => hA q (Nat.le_trans hSf.1 (by rw [← hU]; exact hq))⟩
    obtain ⟨h1, h2⟩ := hS.take (n + 1)
    have h3 := h1.rev
    obtain ⟨w, hw, a, ha, rfl⟩ := hS.at hr
    have hlst := hS.len
    have htk : st.take (n + 1) = st.take n ++ [.ref a] := by rw [List.take_succ, hw]; rfl
    have hrev : (st.take (n + 1)).reverse = .ref a :: (st.take n).reverse := by rw [htk, List.reverse_append]; rfl
    have hst : st = (st.take n).reverse.reverse ++ .ref a :: st.drop (n + 1) := by
      rw [List.reverse_reverse]
      have := (List.take_append_drop (n + 1) st).symm
      rw [htk, List.append_assoc] at this
      exact this
    have hlen : (st.take n).reverse.length = n := by rw [List.length_reverse, List.length_take, hlst]; omega
    have hM := hct x _ _ _ _ hcall ad ws _ h3 (hW.base (fun _ _ q => q))
    refine s_inv h0 hnl hL hW h2 hSf hm hm2 hc1 hc2 (fun u v t hq => hq) (va_runI (b := a) (As := (st.take n).reverse) (rest := st.drop (n + 1)) ⟨hx, hb, rfl, hown, hts⟩ hM cw ⟨gPre.blind, fun U hU' hw => ⟨by rw [hrev], hU U hU' hw⟩⟩ rfl hlen hlsz hst (by rw [h2.wt]; show 2 * 0 + _ ≤ 8; omega) hdg ⟨by omega, by omega⟩)
  · exact hs.elim
theorem s_specialN (hx : p.tables.exec = Jvm.exec) (hb : c.code = cc) {T : Nat → GM} {Yf : Nat → MethodName} {gws : Nat → List Cond} {rm : Nat → Room} {nests : List (String × Nat × MethodName × String)} {call : GCall} (hct : gCt l T Yf gws rm D cl cA E nests A b call) (hK : gKx D cl cA E nests s) (hA : ∀ q, s.heap.size ≤ q → A q) (hMC : MC ≤ R.cells) (hMS : MS ≤ R.slots) (hts : ∀ w ∈ Ts, w.before args s = true) (hown : s.vm.findClass own = some m.cls) {idx x n : Nat} {bytes : ByteArray} {ret : Option FieldType} {host : String} (cw : va_CN R s args own idx (Yf x) host bytes (T x).2.2.1 none (gws x) (rm x) (T x).2.2.2.2.1 (T x).2.2.2.2.2.1 n ∧ (Yf x).name = "<init>" ∧ (Cond.instanceMethod (Yf x)).before args s = true) (hdg : decode cc pc = .ok (.invokespecial idx, 3)) (h0 : ∀ pc L S sh μ mc ms, P0 pc L S sh μ mc ms → gSP p l e R s m args below meth c Qf D cl cA a0 A b MC MS pc L S sh μ mc ms) (hs : match S[n]? with
    | some (.inr (.inl _)) => gIs (Nat.ble 1 (n + 1)) (gInv T call P0 pc L S sh μ mc ms x (n + 1))
    | _ => False) : gSP p l e R s m args below meth c Qf D cl cA a0 A b MC MS pc L S sh μ mc ms := by
  intro ad ls st ws H locs cells slots hnl hL hS hW hP hD hSf hc1 hc2
  split at hs
  · rename_i r hr
    obtain ⟨hq, hs⟩ := gIs_t hs
    obtain ⟨hn, hwt, hm, hm2, hcall⟩ := gInv_i hs
    obtain ⟨lv, hlv, hlv2⟩ := id hL
    have hlsz : ls.size = c.maxLocals := by rw [hnl]; exact hlv.1
    have hU : ∀ U : State, U.heap = H → s.WarmedH U.vm → gPre D cl cA E nests A ws U := fun U hU hw => ⟨by rw [hU]; exact hP, hD, hK.warm hw, fun q hq => hA q (Nat.le_trans hSf.1 (by rw [← hU]; exact hq))⟩
    obtain ⟨h1, h2⟩ := hS.take (n + 1)
    have h3 := h1.rev
    obtain ⟨w, hw, a, ha, rfl⟩ := hS.at hr
    have hlst := hS.len
    have htk : st.take (n + 1) = st.take n ++ [.ref a] := by rw [List.take_succ, hw]; rfl
    have hrev : (st.take (n + 1)).reverse = .ref a :: (st.take n).reverse := by rw [htk, List.reverse_append]; rfl
    have hst : st = (st.take n).reverse.reverse ++ .ref a :: st.drop (n + 1) := by
      rw [List.reverse_reverse]
      have := (List.take_append_drop (n + 1) st).symm
      rw [htk, List.append_assoc] at this
      exact this
    have hlen : (st.take n).reverse.length = n := by rw [List.length_reverse, List.length_take, hlst]; omega
    have hM := hct x _ _ _ _ hcall ad ws _ h3 (hW.base (fun _ _ q => q))
    refine s_inv h0 hnl hL hW h2 hSf hm hm2 hc1 hc2 (fun u v t hq => hq) (va_runIN (b := a) (As := (st.take n).reverse) (rest := st.drop (n + 1)) ⟨hx, hb, rfl, hown, hts⟩ hM cw ⟨gPre.blind, fun U hU' hw => ⟨by rw [hrev], hU U hU' hw⟩⟩ rfl hlen hlsz hst (by rw [h2.wt]; show 2 * 0 + _ ≤ 8; omega) hdg ⟨by omega, by omega⟩)
  · exact hs.elim
end GN
end
section
/-! ===== the whole: a run of the small machine is a run of the real one ===== -/
/-- what the tables must say of a row -/
def gRow (T : Nat → GM) (F : Nat → List Nat) (Yf : Nat → MethodName) (Bf : Nat → ByteArray) (Rf : Nat → Option FieldType) (cl : List vw_C) (E : String) (nests : List (String × Nat × MethodName × String)) (Ts : List Jvm.Cond) (own : String) (ini : Bool) (cc : ByteArray) (pc : Nat) (i : Instr) (x : Nat) (y : Int) : Prop := match i with
  | .aload _ | .iload _ | .lload _ | .istore _ | .bipush _ | .newarray _ => decode cc pc = .ok (i, 2)
  | .sipush _ | .iinc _ _ => decode cc pc = .ok (i, 3)
  | .if_icmp _ off | .ifCond _ off | .goto off | .ifnull off | .ifnonnull off => decode cc pc = .ok (i, 3) ∧ (pc : Int) + off = (x : Int)
  | .tableswitch _ _ _ _ => decode cc pc = .ok (i, x)
  | .ldc k => decode cc pc = .ok (i, 2) ∧ Jvm.Cond.constant own k (Int32.ofInt y) ∈ Ts
  | .ldc2_w k => decode cc pc = .ok (i, 3) ∧ Jvm.Cond.constantLong own k (Int64.ofInt y) ∈ Ts
  | .getfield k => decode cc pc = .ok (i, 3) ∧ 0 ≤ y ∧ ∃ (C : String) (Tf : u_T) (N : Nat) (ty : Nat → FieldType), gFd cl F Ts x y.toNat C Tf N ty ∧ Jvm.Cond.fieldLink own k C (Tf y.toNat).2.1 (Tf y.toNat).2.2.1 ∈ Ts
  | .putfield k => decode cc pc = .ok (i, 3) ∧ 0 ≤ y ∧ ∃ (C : String) (Tf : u_T) (N : Nat) (ty : Nat → FieldType), gFd cl F Ts x y.toNat C Tf N ty ∧ Jvm.Cond.fieldLink own k C (Tf y.toNat).2.1 (Tf y.toNat).2.2.1 ∈ Ts ∧ ((Tf y.toNat).2.2.2 = false ∨ (Tf y.toNat).2.2.2 = true ∧ ini = true ∧ C = own)
  | .new k => decode cc pc = .ok (i, 3) ∧ ∃ (C : String) (Tf : u_T) (N : Nat) (ty : Nat → FieldType), cl[x]? = some (C, Tf, N) ∧ x < 100 ∧ y.toNat = N ∧ (∀ w ∈ u_ws C Tf N, w ∈ Ts) ∧ (∀ j, j < N → parseFieldDescriptor (Tf j).2.2.1 = some (ty j)) ∧ gOb F x N ty ∧ Jvm.Cond.classLink own k C ∈ Ts ∧ Jvm.Cond.instantiable C N ∈ Ts ∧ Jvm.Cond.initialized C ∈ Ts
  | .anewarray k => decode cc pc = .ok (i, 3) ∧ Jvm.Cond.classLink own k E ∈ Ts
  | .aastore => decode cc pc = .ok (i, 1) ∧ ∃ (Tf : u_T) (N : Nat), cl[x]? = some (E, Tf, N) ∧ x < 100
  | .invokestatic k => decode cc pc = .ok (i, 3) ∧ (x = 1001 ∧ Jvm.Cond.methodLink own k arraycopyName ∈ Ts ∧ Jvm.Cond.native arraycopyName ∈ Ts ∧ Jvm.Cond.static arraycopyName ∈ Ts ∧ Jvm.Cond.initialized "java/lang/System" ∈ Ts ∨
      x ≠ 1001 ∧ Jvm.Cond.methodLink own k (Yf x) ∈ Ts ∧ Jvm.Cond.static (Yf x) ∈ Ts ∧ Jvm.Cond.initialized (Yf x).cls ∈ Ts ∧ Jvm.Cond.code (Yf x) (Bf x) (T x).2.2.1 (Rf x) ∈ Ts ∧ ((Yf x).cls ≠ "java/lang/invoke/MethodHandle" ∧ (Yf x).cls ≠ "java/lang/invoke/VarHandle") ∧ (parseMethodDescriptor (Yf x).desc).map (fun d => d.parameters.length) = some y.toNat)
  | .invokevirtual k => decode cc pc = .ok (i, 3) ∧ ∃ n : Nat, y = ((n + 1 : Nat) : Int) ∧ Jvm.Cond.methodLink own k (Yf x) ∈ Ts ∧ Jvm.Cond.instanceMethod (Yf x) ∈ Ts ∧ Jvm.Cond.selects (Yf x).cls (Yf x) (Yf x) ∈ Ts ∧ Jvm.Cond.initialized (Yf x).cls ∈ Ts ∧ Jvm.Cond.code (Yf x) (Bf x) (T x).2.2.1 (Rf x) ∈ Ts ∧ ((Yf x).cls ≠ "java/lang/invoke/MethodHandle" ∧ (Yf x).cls ≠ "java/lang/invoke/VarHandle") ∧ (parseMethodDescriptor (Yf x).desc).map (fun d => d.parameters.length) = some n ∧ (T x).1 < 100 ∧ ∃ (Tf : u_T) (N : Nat), cl[(T x).1]? = some ((Yf x).cls, Tf, N)
  | .invokespecial k => decode cc pc = .ok (i, 3) ∧ (x = 1000 ∧ Jvm.Cond.methodLink own k Lib.objectInit ∈ Ts ∧ Jvm.Cond.instanceMethod Lib.objectInit ∈ Ts ∧ Jvm.Cond.code Lib.objectInit ⟨#[0xb1]⟩ 1 none ∈ Ts ∨
      x ≠ 1000 ∧ ∃ n : Nat, y = ((n + 1 : Nat) : Int) ∧ (Jvm.Cond.methodLink own k (Yf x) ∈ Ts ∨ ∃ host, (own, k, Yf x, host) ∈ nests) ∧ Jvm.Cond.instanceMethod (Yf x) ∈ Ts ∧ (Yf x).name = "<init>" ∧ Rf x = none ∧ Jvm.Cond.initialized (Yf x).cls ∈ Ts ∧ Jvm.Cond.code (Yf x) (Bf x) (T x).2.2.1 (Rf x) ∈ Ts ∧ ((Yf x).cls ≠ "java/lang/invoke/MethodHandle" ∧ (Yf x).cls ≠ "java/lang/invoke/VarHandle") ∧ (parseMethodDescriptor (Yf x).desc).map (fun d => d.parameters.length) = some n)
  | _ => decode cc pc = .ok (i, 1)
/-- what a returning row gives -/
def gRt (k : Nat) (i : Instr) (v : Option GV) : Prop := match i, v with
  | .ireturn, some (.inl n) => k = 1 ∨ k = 2 ∧ (n = 0 ∨ n = 1)
  | .lreturn, some (.inr (.inr (.inl _))) => k = 3
  | .areturn, some v => gTr v = true ∧ k = 4
  | .return_, none => k = 0
  | _, _ => False
section GG
variable {p : Program} {l : Launch} {e : Env} {R : Room} {s : State} {m : MethodId} {args : Array Value} {below : List Frame} {meth : Method} {c : Code} {Qf : State → Prop}
variable {D : va_G} {cl : List vw_C} {cA : Nat → ClassId} {a0 : List Nat} {A : Nat → Prop} {b MC MS : Nat} {cc : ByteArray} {E own : String} {Ts : List Jvm.Cond} {F : Nat → List Nat} {T : Nat → GM} {Yf : Nat → MethodName} {Bf : Nat → ByteArray} {Rf : Nat → Option FieldType} {good : List Jvm.Cond} {rm : Nat → Room} {nests : List (String × Nat × MethodName × String)} {call : GCall} {M : GM} {Q : GQ} {NN : Int} {XX : Int → Int} {ini : Bool}
def gWs (T : Nat → GM) (Yf : Nat → MethodName) (Bf : Nat → ByteArray) (Rf : Nat → Option FieldType) (good : List Jvm.Cond) (j : Nat) : List Jvm.Cond := Jvm.Cond.code (Yf j) (Bf j) (T j).2.2.1 (Rf j) :: good
set_option maxHeartbeats 4000000 in
theorem g_sound (hx : p.tables.exec = Jvm.exec) (hb : c.code = cc) (hts : ∀ w ∈ Ts, w.before args s = true) (hown : s.vm.findClass own = some m.cls) (hK : gKx D cl cA E nests s) (hA : ∀ q, s.heap.size ≤ q → A q) (hMC : MC ≤ R.cells) (hMS : MS ≤ R.slots) (hR1 : 1 ≤ R.frames) (hR2 : 40 ≤ R.locals)
    (har : ∀ w ∈ ([.arrayClass .int, .arrayClass .boolean, .arrayClass .char] : List Jvm.Cond), w ∈ Ts) (hgood : ∀ w ∈ good, w ∈ Ts ∧ goodWord w = true)
    (hrm : ∀ j, (rm j).cells = (T j).2.2.2.2.1 ∧ (rm j).slots = (T j).2.2.2.2.2.1 ∧ (rm j).frames + 1 ≤ R.frames ∧ 8 + ((T j).2.2.1 + 11) + (rm j).locals ≤ R.locals)
    (hct : gCt l T Yf (gWs T Yf Bf Rf good) rm D cl cA E nests A b call)
    (hrow : ∀ pc i x y, gAt M.2.1 pc = some (i, x, y) → gRow T F Yf Bf Rf cl E nests Ts own ini cc pc i x y) (hini : ini = true → meth.name = "<init>")
    (hscr : M.2.2.2.2.2.2 = true → ∃ (Ls : Nat) (xs : Nat → Int32), va_X b Ls xs s s.heap ∧ b < s.heap.size ∧ ¬ A b ∧ NN = Ls ∧ Ls < 2147483648 ∧ ∀ j : Nat, j < Ls → xs j = Int32.ofInt (XX j) ∧ gOk (XX j))
    (hret : ∀ (i : Instr) (v : Option GV) (w : Option Value) (sh : SH) (μ : MU) (ad : List Nat) (ls : Array Slot) (ws : va_W) (H : Heap) (locs : List Loc) (cells slots pc : Nat), decode cc pc = .ok (i, 1) → gRt M.2.2.2.1 i v → Q v sh μ → gVo ad b v w → gWr cA a0 ad b sh μ ws → va_P D cl ws H → va_D A ws → va_S A s.heap H locs → cells ≤ MC → slots ≤ MS → W p l e R s m args below meth c H locs cells slots Qf (F0 m pc ls w.toList)) :
    ∀ (pc : Nat) (L S : List GV) (sh : SH) (μ : MU) (mc ms : Nat), gG T F call NN XX M Q pc L S sh μ mc ms → gSP p l e R s m args below meth c Qf D cl cA a0 A b MC MS pc L S sh μ mc ms := by
  intro pc L S sh μ mc ms hG
  refine hG (gSP p l e R s m args below meth c Qf D cl cA a0 A b MC MS) fun P0 pc L S sh μ mc ms h0 hs => ?_
  unfold gStep at hs
  cases hat : gAt M.2.1 pc with
  | none => rw [hat] at hs; exact hs.elim
  | some r =>
    obtain ⟨i, x, y⟩ := r
    rw [hat] at hs
    have hr := hrow pc i x y hat
    have hs : gStI T F call NN XX M Q P0 pc L S sh μ mc ms i x y := hs
    have hlk : ∀ {w : Jvm.Cond}, w ∈ Ts → w.before args s = true := fun h => hts _ h
    have callB : ∀ (k j n : Nat) (rr : Option FieldType), Rf j = rr → Jvm.Cond.methodLink own k (Yf j) ∈ Ts → Jvm.Cond.initialized (Yf j).cls ∈ Ts → Jvm.Cond.code (Yf j) (Bf j) (T j).2.2.1 (Rf j) ∈ Ts → ((Yf j).cls ≠ "java/lang/invoke/MethodHandle" ∧ (Yf j).cls ≠ "java/lang/invoke/VarHandle") → (parseMethodDescriptor (Yf j).desc).map (fun d => d.parameters.length) = some n → CallB R s args own k (Yf j) (Bf j) (T j).2.2.1 rr (gWs T Yf Bf Rf good j) (rm j) (T j).2.2.2.2.1 (T j).2.2.2.2.2.1 n := by
      intro k j n rr hrr h1 h2 h3 h4 h5
      subst hrr
      obtain ⟨a1, a2, a3, a4⟩ := hrm j
      refine ⟨a1, a2, a3, a4, pay_in hts (fun w hw => ?_), List.mem_cons_self, hlk h3, hlk h2, h4, fun sig hsig => ?_, hlk h1⟩
      · rcases List.mem_cons.mp hw with rfl | hw
        · exact ⟨h3, Or.inl rfl⟩
        · exact ⟨(hgood w hw).1, good_of_word (hgood w hw).2⟩
      · rw [hsig] at h5; exact (Option.some.inj h5).symm
    cases i with
    | aload_n k => exact s_aload_n hx hb hr h0 hs
    | aload k => exact s_aload hx hb hr h0 hs
    | iload_n k => exact s_iload_n hx hb hr h0 hs
    | iload k => exact s_iload hx hb hr h0 hs
    | lload_n k => exact s_lload_n hx hb hr h0 hs
    | lload k => exact s_lload hx hb hr h0 hs
    | istore_n k => exact s_istore_n hx hb hr h0 hs
    | istore k => exact s_istore hx hb hr h0 hs
    | astore_n k =>
      cases S with
      | nil => exact False.elim hs
      | cons v S => exact s_astore_n hx hb hr h0 hs
    | lstore_n k =>
      change (match (generalizing := false) S with
        | .inr (.inr (.inl a)) :: S' => gSt2 L k (gL a) fun L' => P0 (pc + 1) L' S' sh μ mc ms
        | _ => False) at hs
      split at hs
      · exact s_lstore_n hx hb hr h0 hs
      · exact hs.elim
    | iinc k n =>
      change (match (generalizing := false) L[k]? with
        | some (.inl a) => gIs (decide (-2147483648 ≤ n) && decide (n < 2147483648)) (gOk (a + n) ∧ gSt L k (gI (a + n)) fun L' => P0 (pc + 3) L' S sh μ mc ms)
        | _ => False) at hs
      split at hs
      · rename_i a ha
        exact s_iinc hx hb hr h0 ha (gIs_t hs).2
      · exact hs.elim
    | iconst n =>
      obtain ⟨h1, h2⟩ := gIs_t hs
      rw [Bool.and_eq_true, decide_eq_true_eq, decide_eq_true_eq] at h1
      exact s_iconst hx hb hr h0 h1 h2
    | bipush n =>
      obtain ⟨h1, h2⟩ := gIs_t hs
      rw [Bool.and_eq_true, decide_eq_true_eq, decide_eq_true_eq] at h1
      exact s_bipush hx hb hr h0 h1.1 h1.2 h2
    | sipush n =>
      obtain ⟨h1, h2⟩ := gIs_t hs
      rw [Bool.and_eq_true, decide_eq_true_eq, decide_eq_true_eq] at h1
      exact s_sipush hx hb hr h0 h1.1 h1.2 h2
    | ldc k =>
      obtain ⟨h1, h2⟩ := gIs_t hs
      rw [Bool.and_eq_true, decide_eq_true_eq, decide_eq_true_eq] at h1
      exact s_ldc hx hb hown (hlk hr.2) hr.1 h0 h1 h2
    | ldc2_w k => exact s_ldc2 hx hb hown (hlk hr.2) hr.1 h0 hs
    | aconst_null => exact s_null hx hb hr h0 hs
    | dup =>
      cases S with
      | nil => exact False.elim hs
      | cons v S => exact s_dup hx hb hr h0 hs
    | dup2 =>
      cases S with
      | nil => exact False.elim hs
      | cons v S =>
        cases S with
        | nil => exact False.elim hs
        | cons u S => exact s_dup2 hx hb hr h0 hs
    | pop =>
      cases S with
      | nil => exact False.elim hs
      | cons v S => exact s_pop hx hb hr h0 hs
    | iadd => exact s_iadd hx hb hr h0 hs
    | isub => exact s_isub hx hb hr h0 hs
    | imul => exact s_imul hx hb hr h0 hs
    | ineg => exact s_ineg hx hb hr h0 hs
    | idiv => exact s_idiv hx hb hr h0 hs
    | irem => exact s_irem hx hb hr h0 hs
    | iand => exact s_iand hx hb hr h0 hs
    | ior => exact s_ior hx hb hr h0 hs
    | ishl => exact s_ishl hx hb hr h0 hs
    | ishr => exact s_ishr hx hb hr h0 hs
    | i2l => exact s_i2l hx hb hr h0 hs
    | i2c => exact s_i2c hx hb hr h0 hs
    | ladd => exact s_ladd hx hb hr h0 hs
    | lmul => exact s_lmul hx hb hr h0 hs
    | lcmp => exact s_lcmp hx hb hr h0 hs
    | if_icmp k off => exact s_icmp hx hb hr.1 hr.2 h0 hs
    | ifCond k off => exact s_if hx hb hr.1 hr.2 h0 hs
    | ifnull off =>
      change (match (generalizing := false) S with
        | .inr (.inl _) :: S' => P0 (pc + 3) L S' sh μ mc ms
        | .inr (.inr (.inr 0)) :: S' => P0 x L S' sh μ mc ms
        | _ => False) at hs
      split at hs
      · exact s_ifnull_r hx hb hr.1 hr.2 h0 hs
      · exact s_ifnull_n hx hb hr.1 hr.2 h0 hs
      · exact hs.elim
    | ifnonnull off =>
      change (match (generalizing := false) S with
        | .inr (.inl _) :: S' => P0 x L S' sh μ mc ms
        | .inr (.inr (.inr 0)) :: S' => P0 (pc + 3) L S' sh μ mc ms
        | _ => False) at hs
      split at hs
      · exact s_ifnonnull_r hx hb hr.1 hr.2 h0 hs
      · exact s_ifnonnull_n hx hb hr.1 hr.2 h0 hs
      · exact hs.elim
    | goto off => exact s_goto hx hb hr.1 hr.2 h0 hs
    | tableswitch d lo hi offs => exact s_table hx hb hr h0 hs
    | getfield k =>
      obtain ⟨h1, h2, C, Tf, N, ty, h3, h4⟩ := hr
      exact s_get hx hb hts hown hK.1 h3 h2 (hlk h4) h1 h0 hs
    | putfield k =>
      obtain ⟨h1, h2, C, Tf, N, ty, h3, h4, h5⟩ := hr
      exact s_put hx hb hts hown hK.1 h3 h2 (hlk h4) (h5.imp id (fun q => ⟨q.1, hini q.2.1, q.2.2⟩)) h1 h0 hs
    | iaload => exact s_iaload hx hb hK.1 hscr hr h0 hs
    | baload => exact s_baload hx hb hK.1 hscr hr h0 hs
    | caload => exact s_caload hx hb hK.1 hscr hr h0 hs
    | aaload => exact s_aaload hx hb hK.1 hr h0 hs
    | arraylength => exact s_alen hx hb hK.1 hscr hr h0 hs
    | iastore => exact s_iastore hx hb hK.1 hr h0 hs
    | bastore => exact s_bastore hx hb hK.1 hr h0 hs
    | castore => exact s_castore hx hb hK.1 hr h0 hs
    | aastore =>
      obtain ⟨h1, Tf, N, h2, h3⟩ := hr
      exact s_aastore hx hb hK.1 h2 h3 h1 h0 hs
    | newarray t => exact s_newarray hx hb hK.1 hA hMC hMS (fun w hw => hlk (har w hw)) hr h0 hs
    | anewarray k => exact s_anew hx hb hK.1 hA hMC hMS hown (hlk hr.2) hK.2.2 hr.1 h0 hs
    | new k =>
      obtain ⟨h1, C, Tf, N, ty, h2, h3, h4, h5, h6, h7, h8, h9, h10⟩ := hr
      exact s_new hx hb hK.1 hA hMC hMS hts hown h2 h3 h4 h5 h6 h7 (hlk h8) (hlk h9) (hlk h10) h1 h0 hs
    | invokestatic k =>
      obtain ⟨h1, h2⟩ := hr
      have hs : (match (generalizing := false) Nat.beq x 1001 with
        | true => gCopy P0 pc L S sh μ mc ms
        | false => gInv T call P0 pc L S sh μ mc ms x y.toNat) := hs
      rcases h2 with ⟨rfl, h3, h4, h5, h6⟩ | ⟨hne, h3, h4, h5, h6, h7, h8⟩
      · exact s_copy hx hb hK.1 hown (hlk h3) (hlk h4) (hlk h5) (hlk h6) hR1 hR2 h1 h0 hs
      · have hq : Nat.beq x 1001 = false := by
          cases h9 : Nat.beq x 1001 with
          | false => rfl
          | true => exact absurd (Nat.eq_of_beq_eq_true h9) hne
        rw [hq] at hs
        exact s_static hx hb hct hK hA hMC hMS hts hown ⟨callB k x y.toNat (Rf x) rfl h3 h5 h6 h7 h8, hlk h4⟩ h1 h0 hs
    | invokevirtual k =>
      obtain ⟨h1, n, rfl, h2, h3, h4, h5, h6, h7, h8, h9, Tf, N, h10⟩ := hr
      exact s_virtual hx hb hct hK hA hMC hMS hts hown ⟨callB k x n (Rf x) rfl h2 h5 h6 h7 h8, hlk h3, hlk h4⟩ h10 h9 h1 h0 hs
    | invokespecial k =>
      obtain ⟨h1, h2⟩ := hr
      have hs : (match (generalizing := false) Nat.beq x 1000 with
        | true => gRf S fun _ S' => gIs (Nat.ble (gWt S') 8) (P0 (pc + 3) L S' sh μ mc ms)
        | false => match S[y.toNat - 1]? with
          | some (.inr (.inl _)) => gIs (Nat.ble 1 y.toNat) (gInv T call P0 pc L S sh μ mc ms x y.toNat)
          | _ => False) := hs
      rcases h2 with ⟨rfl, h3, h4, h5⟩ | ⟨hne, n, rfl, h3, h4, h5, h6, h7, h8, h9, h10⟩
      · exact s_objInit hx hb hown (hlk h3) (hlk h4) (hlk h5) hR1 hR2 h1 h0 hs
      · have hq : Nat.beq x 1000 = false := by
          cases h9 : Nat.beq x 1000 with
          | false => rfl
          | true => exact absurd (Nat.eq_of_beq_eq_true h9) hne
        rw [hq] at hs
        rcases h3 with h3 | ⟨host, h3⟩
        · exact s_special (ret := none) hx hb hct hK hA hMC hMS hts hown ⟨callB k x n none h6 h3 h7 h8 h9 h10, h5, hlk h4⟩ h1 h0 hs
        · obtain ⟨a1, a2, a3, a4⟩ := hrm x
          refine s_specialN (ret := none) (host := host) hx hb hct hK hA hMC hMS hts hown (bytes := Bf x) (n := n) ⟨⟨⟨a1, a2, a3, a4, pay_in hts (fun w hw => ?_), ?_⟩, ?_, hlk h7, h9, fun sig hsig => ?_, va_Nw.use rfl (hK.2.1 _ h3)⟩, h5, hlk h4⟩ h1 h0 hs
          · rcases List.mem_cons.mp hw with rfl | hw
            · exact ⟨h8, Or.inl rfl⟩
            · exact ⟨(hgood w hw).1, good_of_word (hgood w hw).2⟩
          · rw [← h6]; exact List.mem_cons_self
          · rw [← h6]; exact hlk h8
          · rw [hsig] at h10; exact (Option.some.inj h10).symm
    | ireturn =>
      change (match (generalizing := false) S, M.2.2.2.1 with
        | [.inl a], 1 => Q (some (gI a)) sh μ
        | [.inl a], 2 => (a = 0 ∨ a = 1) ∧ Q (some (gI a)) sh μ
        | _, _ => False) at hs
      split at hs
      · rename_i a hk hz
        intro ad ls st ws H locs cells slots hnl hL hS hW hP hD hSf hc1 hc2
        obtain ⟨st, rfl, ok, hS2⟩ := hS.i1
        rw [hS2.nil]
        exact hret .ireturn (some (gI a)) (some (.int (Int32.ofInt a))) sh μ ad ls ws H locs cells slots pc hr (Or.inl hk) hs (show gVo ad b (some (gI a)) (some (.int (Int32.ofInt a))) from gVr.mkI (ad := ad) (b := b) ok) hW hP hD hSf (by omega) (by omega)
      · rename_i a hk hz
        intro ad ls st ws H locs cells slots hnl hL hS hW hP hD hSf hc1 hc2
        obtain ⟨st, rfl, ok, hS2⟩ := hS.i1
        rw [hS2.nil]
        exact hret .ireturn (some (gI a)) (some (.int (Int32.ofInt a))) sh μ ad ls ws H locs cells slots pc hr (Or.inr ⟨hk, hs.1⟩) hs.2 (show gVo ad b (some (gI a)) (some (.int (Int32.ofInt a))) from gVr.mkI (ad := ad) (b := b) ok) hW hP hD hSf (by omega) (by omega)
      · exact hs.elim
    | lreturn =>
      change (match (generalizing := false) S, M.2.2.2.1 with
        | [.inr (.inr (.inl a))], 3 => Q (some (gL a)) sh μ
        | _, _ => False) at hs
      split at hs
      · rename_i a hk hz
        intro ad ls st ws H locs cells slots hnl hL hS hW hP hD hSf hc1 hc2
        obtain ⟨st, rfl, hS2⟩ := hS.l1
        rw [hS2.nil]
        exact hret .lreturn (some (gL a)) (some (.long (Int64.ofInt a))) sh μ ad ls ws H locs cells slots pc hr hk hs (show gVo ad b (some (gL a)) (some (.long (Int64.ofInt a))) from gVr.mkL (ad := ad) (b := b)) hW hP hD hSf (by omega) (by omega)
      · exact hs.elim
    | areturn =>
      change (match (generalizing := false) S, M.2.2.2.1 with
        | [v], 4 => gIs (gTr v) (Q (some v) sh μ)
        | _, _ => False) at hs
      split at hs
      · rename_i v hk hz
        intro ad ls st ws H locs cells slots hnl hL hS hW hP hD hSf hc1 hc2
        obtain ⟨ht, hs⟩ := gIs_t hs
        obtain ⟨w, st, rfl, hw, hS2⟩ := hS.c1
        rw [hS2.nil]
        exact hret .areturn (some v) (some w) sh μ ad ls ws H locs cells slots pc hr ⟨ht, hk⟩ hs hw hW hP hD hSf (by omega) (by omega)
      · exact hs.elim
    | return_ =>
      change (match (generalizing := false) S, M.2.2.2.1 with
        | [], 0 => Q none sh μ
        | _, _ => False) at hs
      split at hs
      · rename_i hk hz
        intro ad ls st ws H locs cells slots hnl hL hS hW hP hD hSf hc1 hc2
        rw [hS.nil]
        exact hret .return_ none none sh μ ad ls ws H locs cells slots pc hr hk hs trivial hW hP hD hSf (by omega) (by omega)
      · exact hs.elim
    | _ => exact False.elim hs
end GG
end
section
/-! ===== every method's contract, by the depth of its calls ===== -/
theorem vc_i (x : Int32) : ¬ (Value.int x).category = 2 := fun q => absurd (show (1 : Nat) = 2 from q) (by decide)
theorem vc_r (x : Nat) : ¬ (Value.ref x).category = 2 := fun q => absurd (show (1 : Nat) = 2 from q) (by decide)
theorem vc_n : ¬ Value.null.category = 2 := fun q => absurd (show (1 : Nat) = 2 from q) (by decide)
theorem vc_l (x : Int64) : (Value.long x).category = 2 := rfl
theorem gArgs_len {ad : List Nat} {b : Nat} : ∀ {as : List GV} {st : List Value}, gSr ad b as st → (lg_sl st).length = (gArgs as).length
  | [], [], _ => rfl
  | v :: as, w :: st, h => by
    have ih := gArgs_len h.2
    have hc : lg_sl (w :: st) = (if w.category = 2 then [.val w, .second] else [.val w]) ++ lg_sl st := rfl
    rw [hc, List.length_append, ih]
    have hv := h.1
    rcases v with n | k | n | k
    · rw [hv.1, if_neg (vc_i _)]; show 1 + _ = _ + 1; omega
    · obtain ⟨a, -, rfl⟩ := hv; rw [if_neg (vc_r _)]; show 1 + _ = _ + 1; omega
    · rw [show w = .long (Int64.ofInt n) from hv, if_pos (vc_l _)]; show 2 + _ = _ + 1 + 1; omega
    · match k, hv with
      | 0, hv => rw [show w = .null from hv, if_neg vc_n]; show 1 + _ = _ + 1; omega
      | 1, hv => rw [show w = .ref b from hv, if_neg (vc_r _)]; show 1 + _ = _ + 1; omega
theorem gArgs_at {ad : List Nat} {b : Nat} : ∀ {as : List GV} {st : List Value}, gSr ad b as st → ∀ (j i : Nat) (v : GV), (gArgs as)[i]? = some v → gHv v = true → ∃ w, (j + i, w) ∈ lv_args j st ∧ gVr ad b v w
  | [], [], _, j, i, v, hv, _ => by simp [gArgs] at hv
  | u :: as, w :: st, h, j, i, v, hv, hh => by
    have hu := h.1
    have one : w.category ≠ 2 → (i = 0 → v = u) → (∀ n, i = n + 1 → (gArgs as)[n]? = some v) → ∃ w', (j + i, w') ∈ lv_args j (w :: st) ∧ gVr ad b v w' := by
      intro hc h0 h1
      cases i with
      | zero => rw [h0 rfl]; exact ⟨w, List.mem_cons_self, hu⟩
      | succ n =>
        obtain ⟨w', hm, hr⟩ := gArgs_at h.2 (j + 1) n v (h1 n rfl) hh
        refine ⟨w', List.mem_cons_of_mem _ ?_, hr⟩
        rw [if_neg hc, show j + (n + 1) = j + 1 + n by omega]
        exact hm
    rcases u with n | k | n | k
    · refine one (by rw [hu.1]; exact vc_i _) (fun hi => ?_) (fun n hi => ?_)
      · subst hi; simpa [gArgs] using hv.symm
      · subst hi; simpa [gArgs] using hv
    · refine one (by obtain ⟨a, -, rfl⟩ := hu; exact vc_r _) (fun hi => ?_) (fun n hi => ?_)
      · subst hi; simpa [gArgs] using hv.symm
      · subst hi; simpa [gArgs] using hv
    · have hw : w = .long (Int64.ofInt n) := hu
      subst hw
      cases i with
      | zero =>
        have : v = gL n := by simpa [gArgs] using hv.symm
        subst this
        exact ⟨_, List.mem_cons_self, rfl⟩
      | succ i =>
        cases i with
        | zero =>
          have : v = gN 2 := by simpa [gArgs] using hv.symm
          subst this
          cases hh
        | succ i =>
          obtain ⟨w', hm, hr⟩ := gArgs_at h.2 (j + 2) i v (by simpa [gArgs] using hv) hh
          refine ⟨w', List.mem_cons_of_mem _ ?_, hr⟩
          rw [if_pos (vc_l _), show j + (i + 1 + 1) = j + 2 + i by omega]
          exact hm
    · refine one (by match k, hu with
        | 0, hu => rw [show w = .null from hu]; exact vc_n
        | 1, hu => rw [show w = .ref b from hu]; exact vc_r _) (fun hi => ?_) (fun n hi => ?_)
      · subst hi; simpa [gArgs] using hv.symm
      · subst hi; simpa [gArgs] using hv
theorem gLr.entry {ad : List Nat} {b : Nat} {as : List GV} {st : List Value} (h : gSr ad b as st) {n : Nat} (hn : (gArgs as).length ≤ n) : gLr ad b (gIn n as) ((lg_sl st ++ List.replicate (n - (lg_sl st).length) Slot.unset).toArray) := by
  have hl := gArgs_len h
  have he := lv_entry st (n := n) (by rw [hl]; exact hn)
  have hlen : (gIn n as).length = n := by unfold gIn; rw [List.length_append, List.length_replicate]; omega
  refine ⟨_, by rw [hlen]; exact he, fun i v hv hh => ?_⟩
  unfold gIn at hv
  by_cases hi : i < (gArgs as).length
  · rw [List.getElem?_append_left hi] at hv
    obtain ⟨w, h1, h2⟩ := gArgs_at h 0 i v hv hh
    rw [Nat.zero_add] at h1
    exact ⟨w, h1, h2⟩
  · rw [List.getElem?_append_right (by omega)] at hv
    obtain ⟨h1, h2⟩ := List.getElem?_eq_some_iff.mp hv
    rw [List.getElem_replicate] at h2
    subst h2
    cases hh
/-- which answer a method of a kind gives -/
def gRk (k : Nat) (r : Option FieldType) : Prop := match k with
  | 0 => r = none
  | 1 => r = some .int
  | 2 => r = some .boolean
  | 3 => r = some .long
  | 4 => (∃ n, r = some (.object n)) ∨ ∃ t, r = some (.array t)
  | _ => False
section GK
variable {p : Program} {l : Launch} {e : Env} {s : State} {m : MethodId} {args : Array Value} {below : List Frame} {meth : Method} {c : Code}
variable {D : va_G} {cl : List vw_C} {cA : Nat → ClassId} {A : Nat → Prop} {b : Nat} {E : String} {F : Nat → List Nat} {T : Nat → GM} {Yf : Nat → MethodName} {Bf : Nat → ByteArray} {Rf : Nat → Option FieldType} {good : List Jvm.Cond} {nests : List (String × Nat × MethodName × String)}
def gRm (T : Nat → GM) (d j : Nat) : Room := { frames := d + 1, cells := (T j).2.2.2.2.1, slots := (T j).2.2.2.2.2.1, locals := 64 * d + 100 }
/-- what the tables must say of a method -/
def gMok (T : Nat → GM) (F : Nat → List Nat) (Yf : Nat → MethodName) (Bf : Nat → ByteArray) (Rf : Nat → Option FieldType) (cl : List vw_C) (E : String) (nests : List (String × Nat × MethodName × String)) (good : List Jvm.Cond) (j : Nat) : Prop :=
  plainName (Yf j).cls = true ∧ gRk (T j).2.2.2.1 (Rf j) ∧ ∀ pc i x y, gAt (T j).2.1 pc = some (i, x, y) → gRow T F Yf Bf Rf cl E nests good (Yf j).cls (decide ((Yf j).name = "<init>")) (Bf j) pc i x y
theorem gG_nil {call : GCall} {N : Int} {X : Int → Int} {M : GM} {Q : GQ} {pc : Nat} {L S : List GV} {sh : SH} {μ : MU} {mc ms : Nat} (hM : M.2.1 = []) (h : gG T F call N X M Q pc L S sh μ mc ms) : False := by
  refine h (fun _ _ _ _ _ _ _ => False) fun P0 pc L S sh μ mc ms _ hs => ?_
  unfold gStep at hs
  rw [hM] at hs
  exact hs
theorem gPost.mk {ad0 ad : List Nat} {Q : GQ} {v : Option GV} {w : Option Value} {sh : SH} {μ : MU} {ws : va_W} {H : Heap} {locs : List Loc} {u t : State} (hq : Q v sh μ) (hv : gVo ad b v w) (hW : gWr cA ad0 ad b sh μ ws) (hP : va_P D cl ws H) (hD : va_D A ws) (hS : va_S A u.heap H locs) (ht : t.heap = H) : gPost D cl cA A b ad0 Q args u (.returned w) t :=
  ⟨⟨v, sh, μ, ad, ws, w, rfl, hv, hq, hW, by rw [ht]; exact hP, hD⟩, hS.F ht⟩
set_option maxHeartbeats 4000000 in
theorem g_contract (har : ∀ w ∈ ([.arrayClass .int, .arrayClass .boolean, .arrayClass .char] : List Jvm.Cond), w ∈ good) (hgood : ∀ w ∈ good, goodWord w = true) (hml : ∀ j, (T j).2.2.1 ≤ 45) (hall : ∀ j, gMok T F Yf Bf Rf cl E nests good j ∨ (T j).2.1 = []) :
    ∀ d, gCt l T Yf (gWs T Yf Bf Rf good) (gRm T d) D cl cA E nests A b (gCall T F d) := by
  intro d
  induction d with
  | zero => intro j as sh μ Q h; exact h.elim
  | succ d ih =>
    intro j as sh μ Q h ad ws st hst hWr
    obtain ⟨hq, hG⟩ := gIs_t h
    rw [Bool.and_eq_true] at hq
    have hns : (T j).2.2.2.2.2.2 = false := by
      have := hq.1
      cases h9 : (T j).2.2.2.2.2.2 with
      | false => rfl
      | true => rw [h9] at this; cases this
    have hlen := Nat.le_of_ble_eq_true hq.2
    obtain ⟨hpl, hrk, hrow⟩ : gMok T F Yf Bf Rf cl E nests good j := (hall j).elim id (fun hM => (gG_nil hM hG).elim)
    refine Met.ofW (cc := Bf j) (maxL := (T j).2.2.1) (ret := Rf j) hpl rfl ?_
    intro p e s m args below meth c s₁ B hmaxl hv
    obtain ⟨rfl, hP, hD, hK, hA⟩ := hv
    have hx := B.exec
    have hb := B.bytes
    have hr := B.returns
    have hts0 := atoms_spec (ws := gWs T Yf Bf Rf good j) B.pre
    have hts : ∀ w ∈ good, w.before st.toArray s = true := fun w hw => hts0 w (List.mem_cons_of_mem _ hw)
    have hown : s.vm.findClass (Yf j).cls = some m.cls := findClass_of_methodNamed B.named
    have hlocks := B.notSynchronized
    have hnm : meth.name = (Yf j).name := (name_of_methodNamed B.named B.method).1
    rw [lg_entry_eq]
    have hS : va_S A s.heap s.heap [] := va_S.rf
    have hL := gLr.entry hst hlen
    have hgl : (gIn (T j).2.2.1 as).length = (T j).2.2.1 := by unfold gIn; rw [List.length_append, List.length_replicate]; omega
    refine g_sound (Q := Q) (M := T j) (T := T) (F := F) (Yf := Yf) (Bf := Bf) (Rf := Rf) (good := good) (rm := gRm T d) (a0 := ad) (MC := (T j).2.2.2.2.1) (MS := (T j).2.2.2.2.2.1) (R := gRm T (d + 1) j) (ini := decide ((Yf j).name = "<init>")) hx hb hts hown hK hA (Nat.le_refl _) (Nat.le_refl _) (show 1 ≤ d + 1 + 1 by omega) (show 40 ≤ 64 * (d + 1) + 100 by omega) har (fun w hw => ⟨hw, hgood w hw⟩) (fun j' => ⟨rfl, rfl, Nat.le_refl _, ?_⟩) ih hrow (fun hi => by rw [hnm]; exact of_decide_eq_true hi) (fun hu => by rw [hns] at hu; cases hu) ?_ 0 _ [] sh μ _ _ hG ad _ [] ws s.heap [] 0 0 (hmaxl.trans hgl.symm) hL trivial hWr hP hD hS (by omega) (by omega)
    · have := hml j'
      show 8 + ((T j').2.2.1 + 11) + (64 * d + 100) ≤ 64 * (d + 1) + 100
      omega
    · intro i v w sh' μ' ad' ls' ws' H' locs' cells' slots' pc' hdg hrt hQ hvo hW' hP' hD' hS' hc1 hc2
      refine W.widen hc1 hc2 ?_
      have hf : ∀ q ∈ locs', A q.base := hS'.2.2
      cases i with
      | ireturn =>
        cases v with
        | none => exact False.elim hrt
        | some v =>
          cases w with
          | none => exact False.elim hvo
          | some w =>
            rcases v with n | k | n | k
            · have hvo2 : w = .int (Int32.ofInt n) ∧ gOk n := hvo
              rw [hvo2.1] at hvo ⊢
              rcases hrt with hk | ⟨hk, hn⟩
              · rw [hk] at hrk
                exact W.iret hx hb (by rw [hr]; exact hrk) (fun t ht _ => gPost.mk hQ hvo hW' hP' hD' hS' ht) hf hdg hlocks
              · rw [hk] at hrk
                exact W.zret (ty := .boolean) hx hb (by rw [hr]; exact hrk) (by rcases hn with rfl | rfl <;> rfl) (fun t ht _ => gPost.mk hQ hvo hW' hP' hD' hS' ht) hf hdg hlocks
            · exact False.elim hrt
            · exact False.elim hrt
            · exact False.elim hrt
      | lreturn =>
        cases v with
        | none => exact False.elim hrt
        | some v =>
          cases w with
          | none => exact False.elim hvo
          | some w =>
            rcases v with n | k | n | k
            · exact False.elim hrt
            · exact False.elim hrt
            · have hw : w = .long (Int64.ofInt n) := hvo
              subst hw
              have hk : (T j).2.2.2.1 = 3 := hrt
              rw [hk] at hrk
              exact W.lret hx hb (by rw [hr]; exact hrk) (fun t ht _ => gPost.mk hQ hvo hW' hP' hD' hS' ht) hf hdg hlocks
            · exact False.elim hrt
      | areturn =>
        cases v with
        | none => exact False.elim hrt
        | some v =>
          cases w with
          | none => exact False.elim hvo
          | some w =>
            have hrt : gTr v = true ∧ (T j).2.2.2.1 = 4 := hrt
            have hk := hrt.2
            rw [hk] at hrk
            have hw : w = .null ∨ ∃ a, w = .ref a := gTr_of hrt.1 hvo
            rcases hrk with ⟨n, h1⟩ | ⟨n, h1⟩
            · exact W.aret hx hb (by rw [hr]; exact h1) (Or.inl ⟨n, rfl⟩) hw (fun t ht _ => gPost.mk hQ hvo hW' hP' hD' hS' ht) hf hdg hlocks
            · exact W.aret hx hb (by rw [hr]; exact h1) (Or.inr ⟨n, rfl⟩) hw (fun t ht _ => gPost.mk hQ hvo hW' hP' hD' hS' ht) hf hdg hlocks
      | return_ =>
        cases v with
        | some v => exact False.elim hrt
        | none =>
          cases w with
          | some w => exact False.elim hvo
          | none =>
            have hk : (T j).2.2.2.1 = 0 := hrt
            rw [hk] at hrk
            exact W.vret hx hb (by rw [hr]; exact hrk) (fun t ht _ => gPost.mk hQ hvo hW' hP' hD' hS' ht) hf hdg hlocks
      | _ => exact False.elim hrt
end GK
end
