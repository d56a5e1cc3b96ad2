/-! ===== the whole: a run of the small machine is a run of the real one ===== -/
/-- what the tables must say of a row -/
def gRow (T : Nat → GM) (F : Nat → List Nat) (Yf : Nat → MethodName) (Bf : Nat → ByteArray) (Rf : Nat → Option FieldType) (cl : List vw_C) (E : String) (nests : List (String × Nat × MethodName × String)) (Ts : List Jvm.Cond) (own : String) (ini : Bool) (cc : ByteArray) (pc : Nat) (i : Instr) (x : Nat) (y : Int) : Prop := match i with
  | .aload _ | .iload _ | .lload _ | .istore _ | .lstore _ | .bipush _ | .newarray _ => decode cc pc = .ok (i, 2)
  | .sipush _ | .iinc _ _ => decode cc pc = .ok (i, 3)
  | .if_icmp _ off | .ifCond _ off | .goto off | .ifnull off | .ifnonnull off => decode cc pc = .ok (i, 3) ∧ (pc : Int) + off = (x : Int)
  | .tableswitch _ _ _ _ => decode cc pc = .ok (i, x)
  | .ldc k => decode cc pc = .ok (i, 2) ∧ Jvm.Cond.constant own k (Int32.ofInt y) ∈ Ts
  | .ldc2_w k => decode cc pc = .ok (i, 3) ∧ Jvm.Cond.constantLong own k (Int64.ofInt y) ∈ Ts
  | .getfield k => decode cc pc = .ok (i, 3) ∧ 0 ≤ y ∧ ∃ (C : String) (Tf : u_T) (N : Nat) (ty : Nat → FieldType), gFd cl F Ts x y.toNat C Tf N ty ∧ Jvm.Cond.fieldLink own k C (Tf y.toNat).2.1 (Tf y.toNat).2.2.1 ∈ Ts
  | .putfield k => decode cc pc = .ok (i, 3) ∧ 0 ≤ y ∧ ∃ (C : String) (Tf : u_T) (N : Nat) (ty : Nat → FieldType), gFd cl F Ts x y.toNat C Tf N ty ∧ Jvm.Cond.fieldLink own k C (Tf y.toNat).2.1 (Tf y.toNat).2.2.1 ∈ Ts ∧ ((Tf y.toNat).2.2.2 = false ∨ (Tf y.toNat).2.2.2 = true ∧ ini = true ∧ C = own)
  | .new k => decode cc pc = .ok (i, 3) ∧ ∃ (C : String) (Tf : u_T) (N : Nat) (ty : Nat → FieldType), cl[x]? = some (C, Tf, N) ∧ x < 100 ∧ y.toNat = N ∧ (∀ w ∈ u_ws C Tf N, w ∈ Ts) ∧ (∀ j, j < N → parseFieldDescriptor (Tf j).2.2.1 = some (ty j)) ∧ gOb F x N ty ∧ Jvm.Cond.classLink own k C ∈ Ts ∧ Jvm.Cond.instantiable C N ∈ Ts ∧ Jvm.Cond.initialized C ∈ Ts
  | .anewarray k => decode cc pc = .ok (i, 3) ∧ Jvm.Cond.classLink own k E ∈ Ts
  | .aastore => decode cc pc = .ok (i, 1) ∧ ∃ (Tf : u_T) (N : Nat), cl[x]? = some (E, Tf, N) ∧ x < 100
  | .invokestatic k => decode cc pc = .ok (i, 3) ∧ (x = 1001 ∧ Jvm.Cond.methodLink own k arraycopyName ∈ Ts ∧ Jvm.Cond.native arraycopyName ∈ Ts ∧ Jvm.Cond.static arraycopyName ∈ Ts ∧ Jvm.Cond.initialized "java/lang/System" ∈ Ts ∨
      (∃ (nm : MethodName) (bc : ByteArray) (n : Nat), (x = 1002 ∧ nm = Lib.Math.abs.name ∧ bc = Lib.Math.abs.code ∧ n = 1 ∨ x = 1003 ∧ nm = Lib.Math.max.name ∧ bc = Lib.Math.max.code ∧ n = 2 ∨ x = 1004 ∧ nm = Lib.Math.min.name ∧ bc = Lib.Math.min.code ∧ n = 2) ∧ Jvm.Cond.methodLink own k nm ∈ Ts ∧ Jvm.Cond.static nm ∈ Ts ∧ Jvm.Cond.initialized "java/lang/Math" ∈ Ts ∧ Jvm.Cond.code nm bc n (some .int) ∈ Ts) ∨
      x < 1000 ∧ Jvm.Cond.methodLink own k (Yf x) ∈ Ts ∧ Jvm.Cond.static (Yf x) ∈ Ts ∧ Jvm.Cond.initialized (Yf x).cls ∈ Ts ∧ Jvm.Cond.code (Yf x) (Bf x) (T x).2.2.1 (Rf x) ∈ Ts ∧ ((Yf x).cls ≠ "java/lang/invoke/MethodHandle" ∧ (Yf x).cls ≠ "java/lang/invoke/VarHandle") ∧ (parseMethodDescriptor (Yf x).desc).map (fun d => d.parameters.length) = some y.toNat)
  | .invokevirtual k => decode cc pc = .ok (i, 3) ∧ ∃ n : Nat, y = ((n + 1 : Nat) : Int) ∧ Jvm.Cond.methodLink own k (Yf x) ∈ Ts ∧ Jvm.Cond.instanceMethod (Yf x) ∈ Ts ∧ Jvm.Cond.selects (Yf x).cls (Yf x) (Yf x) ∈ Ts ∧ Jvm.Cond.initialized (Yf x).cls ∈ Ts ∧ Jvm.Cond.code (Yf x) (Bf x) (T x).2.2.1 (Rf x) ∈ Ts ∧ ((Yf x).cls ≠ "java/lang/invoke/MethodHandle" ∧ (Yf x).cls ≠ "java/lang/invoke/VarHandle") ∧ (parseMethodDescriptor (Yf x).desc).map (fun d => d.parameters.length) = some n ∧ (T x).1 < 100 ∧ ∃ (Tf : u_T) (N : Nat), cl[(T x).1]? = some ((Yf x).cls, Tf, N)
  | .invokespecial k => decode cc pc = .ok (i, 3) ∧ (x = 1000 ∧ Jvm.Cond.methodLink own k Lib.objectInit ∈ Ts ∧ Jvm.Cond.instanceMethod Lib.objectInit ∈ Ts ∧ Jvm.Cond.code Lib.objectInit ⟨#[0xb1]⟩ 1 none ∈ Ts ∨
      x ≠ 1000 ∧ ∃ n : Nat, y = ((n + 1 : Nat) : Int) ∧ (Jvm.Cond.methodLink own k (Yf x) ∈ Ts ∨ ∃ host, (own, k, Yf x, host) ∈ nests) ∧ Jvm.Cond.instanceMethod (Yf x) ∈ Ts ∧ (Yf x).name = "<init>" ∧ Rf x = none ∧ Jvm.Cond.initialized (Yf x).cls ∈ Ts ∧ Jvm.Cond.code (Yf x) (Bf x) (T x).2.2.1 (Rf x) ∈ Ts ∧ ((Yf x).cls ≠ "java/lang/invoke/MethodHandle" ∧ (Yf x).cls ≠ "java/lang/invoke/VarHandle") ∧ (parseMethodDescriptor (Yf x).desc).map (fun d => d.parameters.length) = some n)
  | _ => decode cc pc = .ok (i, 1)
/-- what a returning row gives -/
def gRt (k : Nat) (i : Instr) (v : Option GV) : Prop := match i, v with
  | .ireturn, some (.inl n) => k = 1 ∨ k = 2 ∧ (n = 0 ∨ n = 1)
  | .lreturn, some (.inr (.inr (.inl _))) => k = 3
  | .areturn, some v => gTr v = true ∧ k = 4
  | .return_, none => k = 0
  | _, _ => False
section GG
variable {p : Program} {l : Launch} {e : Env} {R : Room} {s : State} {m : MethodId} {args : Array Value} {below : List Frame} {meth : Method} {c : Code} {Qf : State → Prop}
variable {D : va_G} {cl : List vw_C} {cA : Nat → ClassId} {a0 : List Nat} {A : Nat → Prop} {b MC MS : Nat} {cc : ByteArray} {E own : String} {Ts : List Jvm.Cond} {F : Nat → List Nat} {T : Nat → GM} {Yf : Nat → MethodName} {Bf : Nat → ByteArray} {Rf : Nat → Option FieldType} {good : List Jvm.Cond} {rm : Nat → Room} {nests : List (String × Nat × MethodName × String)} {call : GCall} {M : GM} {Q : GQ} {NN : Int} {XX : Int → Int} {ini : Bool}
def gWs (T : Nat → GM) (Yf : Nat → MethodName) (Bf : Nat → ByteArray) (Rf : Nat → Option FieldType) (good : List Jvm.Cond) (j : Nat) : List Jvm.Cond := Jvm.Cond.code (Yf j) (Bf j) (T j).2.2.1 (Rf j) :: good
set_option maxHeartbeats 4000000 in
theorem g_sound (hx : p.tables.exec = Jvm.exec) (hb : c.code = cc) (hts : ∀ w ∈ Ts, w.before args s = true) (hown : s.vm.findClass own = some m.cls) (hK : gKx D cl cA E nests s) (hA : ∀ q, s.heap.size ≤ q → A q) (hMC : MC ≤ R.cells) (hMS : MS ≤ R.slots) (hR1 : 1 ≤ R.frames) (hR2 : 40 ≤ R.locals)
    (har : ∀ w ∈ ([.arrayClass .int, .arrayClass .boolean, .arrayClass .char] : List Jvm.Cond), w ∈ Ts) (hgood : ∀ w ∈ good, w ∈ Ts ∧ goodWord w = true)
    (hrm : ∀ j, (rm j).cells = (T j).2.2.2.2.1 ∧ (rm j).slots = (T j).2.2.2.2.2.1 ∧ (rm j).frames + 1 ≤ R.frames ∧ 8 + ((T j).2.2.1 + 11) + (rm j).locals ≤ R.locals)
    (hct : gCt l T Yf (gWs T Yf Bf Rf good) rm D cl cA E nests A b NN XX call)
    (hrow : ∀ pc i x y, gAt M.2.1 pc = some (i, x, y) → gRow T F Yf Bf Rf cl E nests Ts own ini cc pc i x y) (hini : ini = true → meth.name = "<init>")
    (hZ : gZc b NN XX A s)
    (hret : ∀ (i : Instr) (v : Option GV) (w : Option Value) (sh : SH) (μ : MU) (ad : List Nat) (ls : Array Slot) (ws : va_W) (H : Heap) (locs : List Loc) (cells slots pc : Nat), decode cc pc = .ok (i, 1) → gRt M.2.2.2.1 i v → Q v sh μ → gVo ad b v w → gWr cA a0 ad b sh μ ws → va_P D cl ws H → va_D A ws → va_S A s.heap H locs → cells ≤ MC → slots ≤ MS → W p l e R s m args below meth c H locs cells slots Qf (F0 m pc ls w.toList)) :
    ∀ (pc : Nat) (L S : List GV) (sh : SH) (μ : MU) (mc ms : Nat), gG T F call NN XX M Q pc L S sh μ mc ms → gSP p l e R s m args below meth c Qf D cl cA a0 A b MC MS pc L S sh μ mc ms := by
  intro pc L S sh μ mc ms hG
  refine hG (gSP p l e R s m args below meth c Qf D cl cA a0 A b MC MS) fun P0 pc L S sh μ mc ms h0 hs => ?_
  unfold gStep at hs
  cases hat : gAt M.2.1 pc with
  | none => rw [hat] at hs; exact hs.elim
  | some r =>
    obtain ⟨i, x, y⟩ := r
    rw [hat] at hs
    have hr := hrow pc i x y hat
    have hs : gStI T F call NN XX M Q P0 pc L S sh μ mc ms i x y := hs
    have hlk : ∀ {w : Jvm.Cond}, w ∈ Ts → w.before args s = true := fun h => hts _ h
    have callB : ∀ (k j n : Nat) (rr : Option FieldType), Rf j = rr → Jvm.Cond.methodLink own k (Yf j) ∈ Ts → Jvm.Cond.initialized (Yf j).cls ∈ Ts → Jvm.Cond.code (Yf j) (Bf j) (T j).2.2.1 (Rf j) ∈ Ts → ((Yf j).cls ≠ "java/lang/invoke/MethodHandle" ∧ (Yf j).cls ≠ "java/lang/invoke/VarHandle") → (parseMethodDescriptor (Yf j).desc).map (fun d => d.parameters.length) = some n → CallB R s args own k (Yf j) (Bf j) (T j).2.2.1 rr (gWs T Yf Bf Rf good j) (rm j) (T j).2.2.2.2.1 (T j).2.2.2.2.2.1 n := by
      intro k j n rr hrr h1 h2 h3 h4 h5
      subst hrr
      obtain ⟨a1, a2, a3, a4⟩ := hrm j
      refine ⟨a1, a2, a3, a4, pay_in hts (fun w hw => ?_), List.mem_cons_self, hlk h3, hlk h2, h4, fun sig hsig => ?_, hlk h1⟩
      · rcases List.mem_cons.mp hw with rfl | hw
        · exact ⟨h3, Or.inl rfl⟩
        · exact ⟨(hgood w hw).1, good_of_word (hgood w hw).2⟩
      · rw [hsig] at h5; exact (Option.some.inj h5).symm
    cases i with
    | aload_n k => exact s_aload_n hx hb hr h0 hs
    | aload k => exact s_aload hx hb hr h0 hs
    | iload_n k => exact s_iload_n hx hb hr h0 hs
    | iload k => exact s_iload hx hb hr h0 hs
    | lload_n k => exact s_lload_n hx hb hr h0 hs
    | lload k => exact s_lload hx hb hr h0 hs
    | istore_n k => exact s_istore_n hx hb hr h0 hs
    | istore k => exact s_istore hx hb hr h0 hs
    | astore_n k =>
      cases S with
      | nil => exact False.elim hs
      | cons v S => exact s_astore_n hx hb hr h0 hs
    | lstore_n k =>
      change (match (generalizing := false) S with
        | .inr (.inr (.inl a)) :: S' => gSt2 L k (gL a) fun L' => P0 (pc + 1) L' S' sh μ mc ms
        | _ => False) at hs
      split at hs
      · exact s_lstore_n hx hb hr h0 hs
      · exact hs.elim
    | lstore k =>
      change (match (generalizing := false) S with
        | .inr (.inr (.inl a)) :: S' => gSt2 L k (gL a) fun L' => P0 (pc + 2) L' S' sh μ mc ms
        | _ => False) at hs
      split at hs
      · exact s_lstore hx hb hr h0 hs
      · exact hs.elim
    | iinc k n =>
      change (match (generalizing := false) L[k]? with
        | some (.inl a) => gIs (decide (-2147483648 ≤ n) && decide (n < 2147483648)) (gOk (a + n) ∧ gSt L k (gI (a + n)) fun L' => P0 (pc + 3) L' S sh μ mc ms)
        | _ => False) at hs
      split at hs
      · rename_i a ha
        exact s_iinc hx hb hr h0 ha (gIs_t hs).2
      · exact hs.elim
    | iconst n =>
      obtain ⟨h1, h2⟩ := gIs_t hs
      rw [Bool.and_eq_true, decide_eq_true_eq, decide_eq_true_eq] at h1
      exact s_iconst hx hb hr h0 h1 h2
    | bipush n =>
      obtain ⟨h1, h2⟩ := gIs_t hs
      rw [Bool.and_eq_true, decide_eq_true_eq, decide_eq_true_eq] at h1
      exact s_bipush hx hb hr h0 h1.1 h1.2 h2
    | sipush n =>
      obtain ⟨h1, h2⟩ := gIs_t hs
      rw [Bool.and_eq_true, decide_eq_true_eq, decide_eq_true_eq] at h1
      exact s_sipush hx hb hr h0 h1.1 h1.2 h2
    | ldc k =>
      obtain ⟨h1, h2⟩ := gIs_t hs
      rw [Bool.and_eq_true, decide_eq_true_eq, decide_eq_true_eq] at h1
      exact s_ldc hx hb hown (hlk hr.2) hr.1 h0 h1 h2
    | ldc2_w k => exact s_ldc2 hx hb hown (hlk hr.2) hr.1 h0 hs
    | aconst_null => exact s_null hx hb hr h0 hs
    | dup =>
      cases S with
      | nil => exact False.elim hs
      | cons v S => exact s_dup hx hb hr h0 hs
    | dup2 =>
      cases S with
      | nil => exact False.elim hs
      | cons v S =>
        cases S with
        | nil => exact False.elim hs
        | cons u S => exact s_dup2 hx hb hr h0 hs
    | pop =>
      cases S with
      | nil => exact False.elim hs
      | cons v S => exact s_pop hx hb hr h0 hs
    | iadd => exact s_iadd hx hb hr h0 hs
    | isub => exact s_isub hx hb hr h0 hs
    | imul => exact s_imul hx hb hr h0 hs
    | ineg => exact s_ineg hx hb hr h0 hs
    | idiv => exact s_idiv hx hb hr h0 hs
    | irem => exact s_irem hx hb hr h0 hs
    | iand => exact s_iand hx hb hr h0 hs
    | ior => exact s_ior hx hb hr h0 hs
    | ishl => exact s_ishl hx hb hr h0 hs
    | ishr => exact s_ishr hx hb hr h0 hs
    | i2l => exact s_i2l hx hb hr h0 hs
    | i2c => exact s_i2c hx hb hr h0 hs
    | ladd => exact s_ladd hx hb hr h0 hs
    | lmul => exact s_lmul hx hb hr h0 hs
    | lcmp => exact s_lcmp hx hb hr h0 hs
    | if_icmp k off => exact s_icmp hx hb hr.1 hr.2 h0 hs
    | ifCond k off => exact s_if hx hb hr.1 hr.2 h0 hs
    | ifnull off =>
      change (match (generalizing := false) S with
        | .inr (.inl _) :: S' => P0 (pc + 3) L S' sh μ mc ms
        | .inr (.inr (.inr 0)) :: S' => P0 x L S' sh μ mc ms
        | _ => False) at hs
      split at hs
      · exact s_ifnull_r hx hb hr.1 hr.2 h0 hs
      · exact s_ifnull_n hx hb hr.1 hr.2 h0 hs
      · exact hs.elim
    | ifnonnull off =>
      change (match (generalizing := false) S with
        | .inr (.inl _) :: S' => P0 x L S' sh μ mc ms
        | .inr (.inr (.inr 0)) :: S' => P0 (pc + 3) L S' sh μ mc ms
        | _ => False) at hs
      split at hs
      · exact s_ifnonnull_r hx hb hr.1 hr.2 h0 hs
      · exact s_ifnonnull_n hx hb hr.1 hr.2 h0 hs
      · exact hs.elim
    | goto off => exact s_goto hx hb hr.1 hr.2 h0 hs
    | tableswitch d lo hi offs => exact s_table hx hb hr h0 hs
    | getfield k =>
      obtain ⟨h1, h2, C, Tf, N, ty, h3, h4⟩ := hr
      exact s_get hx hb hts hown hK.1 h3 h2 (hlk h4) h1 h0 hs
    | putfield k =>
      obtain ⟨h1, h2, C, Tf, N, ty, h3, h4, h5⟩ := hr
      exact s_put hx hb hts hown hK.1 h3 h2 (hlk h4) (h5.imp id (fun q => ⟨q.1, hini q.2.1, q.2.2⟩)) h1 h0 hs
    | iaload => exact s_iaload hx hb hK.1 (fun _ => hZ) hr h0 hs
    | baload => exact s_baload hx hb hK.1 (fun _ => hZ) hr h0 hs
    | caload => exact s_caload hx hb hK.1 (fun _ => hZ) hr h0 hs
    | aaload => exact s_aaload hx hb hK.1 hr h0 hs
    | arraylength => exact s_alen hx hb hK.1 (fun _ => hZ) hr h0 hs
    | iastore => exact s_iastore hx hb hK.1 hr h0 hs
    | bastore => exact s_bastore hx hb hK.1 hr h0 hs
    | castore => exact s_castore hx hb hK.1 hr h0 hs
    | aastore =>
      obtain ⟨h1, Tf, N, h2, h3⟩ := hr
      exact s_aastore hx hb hK.1 h2 h3 h1 h0 hs
    | newarray t => exact s_newarray hx hb hK.1 hA hMC hMS (fun w hw => hlk (har w hw)) hr h0 hs
    | anewarray k => exact s_anew hx hb hK.1 hA hMC hMS hown (hlk hr.2) hK.2.2 hr.1 h0 hs
    | new k =>
      obtain ⟨h1, C, Tf, N, ty, h2, h3, h4, h5, h6, h7, h8, h9, h10⟩ := hr
      exact s_new hx hb hK.1 hA hMC hMS hts hown h2 h3 h4 h5 h6 h7 (hlk h8) (hlk h9) (hlk h10) h1 h0 hs
    | invokestatic k =>
      obtain ⟨h1, h2⟩ := hr
      rcases h2 with ⟨rfl, h3, h4, h5, h6⟩ | ⟨nm, bc, n, hc, h4, h5, h6, h7⟩ | ⟨hne, h3, h4, h5, h6, h7, h8⟩
      · exact s_copy hx hb hK.1 hown (hlk h3) (hlk h4) (hlk h5) (hlk h6) hR1 hR2 h1 h0 hs
      · rcases hc with ⟨rfl, rfl, rfl, rfl⟩ | ⟨rfl, rfl, rfl, rfl⟩ | ⟨rfl, rfl, rfl, rfl⟩
        · exact s_abs hx hb hown (hlk h4) (hlk h5) (hlk h6) (hlk h7) hMC hMS hR1 hR2 h1 h0 hs
        · exact s_max hx hb hown (hlk h4) (hlk h5) (hlk h6) (hlk h7) hMC hMS hR1 hR2 h1 h0 hs
        · exact s_min hx hb hown (hlk h4) (hlk h5) (hlk h6) (hlk h7) hMC hMS hR1 hR2 h1 h0 hs
      · have hs2 : gInv T call P0 pc L S sh μ mc ms x y.toNat := by
          change (match (generalizing := false) x with
            | 1001 => gCopy P0 pc L S sh μ mc ms
            | 1002 => g1 S fun a S' => gIs (Nat.ble (gWt S') 8) (gOk (-a) ∧ P0 (pc + 3) L (gI (gAbs a) :: S') sh μ mc ms)
            | 1003 => g2 S fun a b S' => gIs (Nat.ble (gWt S') 8) (P0 (pc + 3) L (gI (max a b) :: S') sh μ mc ms)
            | 1004 => g2 S fun a b S' => gIs (Nat.ble (gWt S') 8) (P0 (pc + 3) L (gI (min a b) :: S') sh μ mc ms)
            | _ => gInv T call P0 pc L S sh μ mc ms x y.toNat) at hs
          split at hs
          · omega
          · omega
          · omega
          · omega
          · exact hs
        exact s_static hx hb hct hK hA hZ hMC hMS hts hown ⟨callB k x y.toNat (Rf x) rfl h3 h5 h6 h7 h8, hlk h4⟩ h1 h0 hs2
    | invokevirtual k =>
      obtain ⟨h1, n, rfl, h2, h3, h4, h5, h6, h7, h8, h9, Tf, N, h10⟩ := hr
      exact s_virtual hx hb hct hK hA hZ hMC hMS hts hown ⟨callB k x n (Rf x) rfl h2 h5 h6 h7 h8, hlk h3, hlk h4⟩ h10 h9 h1 h0 hs
    | invokespecial k =>
      obtain ⟨h1, h2⟩ := hr
      have hs : (match (generalizing := false) Nat.beq x 1000 with
        | true => gRf S fun _ S' => gIs (Nat.ble (gWt S') 8) (P0 (pc + 3) L S' sh μ mc ms)
        | false => match S[y.toNat - 1]? with
          | some (.inr (.inl _)) => gIs (Nat.ble 1 y.toNat) (gInv T call P0 pc L S sh μ mc ms x y.toNat)
          | _ => False) := hs
      rcases h2 with ⟨rfl, h3, h4, h5⟩ | ⟨hne, n, rfl, h3, h4, h5, h6, h7, h8, h9, h10⟩
      · exact s_objInit hx hb hown (hlk h3) (hlk h4) (hlk h5) hR1 hR2 h1 h0 hs
      · have hq : Nat.beq x 1000 = false := by
          cases h9 : Nat.beq x 1000 with
          | false => rfl
          | true => exact absurd (Nat.eq_of_beq_eq_true h9) hne
        rw [hq] at hs
        rcases h3 with h3 | ⟨host, h3⟩
        · exact s_special (ret := none) hx hb hct hK hA hZ hMC hMS hts hown ⟨callB k x n none h6 h3 h7 h8 h9 h10, h5, hlk h4⟩ h1 h0 hs
        · obtain ⟨a1, a2, a3, a4⟩ := hrm x
          refine s_specialN (ret := none) (host := host) hx hb hct hK hA hZ hMC hMS hts hown (bytes := Bf x) (n := n) ⟨⟨⟨a1, a2, a3, a4, pay_in hts (fun w hw => ?_), ?_⟩, ?_, hlk h7, h9, fun sig hsig => ?_, va_Nw.use rfl (hK.2.1 _ h3)⟩, h5, hlk h4⟩ h1 h0 hs
          · rcases List.mem_cons.mp hw with rfl | hw
            · exact ⟨h8, Or.inl rfl⟩
            · exact ⟨(hgood w hw).1, good_of_word (hgood w hw).2⟩
          · rw [← h6]; exact List.mem_cons_self
          · rw [← h6]; exact hlk h8
          · rw [hsig] at h10; exact (Option.some.inj h10).symm
    | ireturn =>
      change (match (generalizing := false) S, M.2.2.2.1 with
        | [.inl a], 1 => Q (some (gI a)) sh μ
        | [.inl a], 2 => (a = 0 ∨ a = 1) ∧ Q (some (gI a)) sh μ
        | _, _ => False) at hs
      split at hs
      · rename_i a hk hz
        intro ad ls st ws H locs cells slots hnl hL hS hW hP hD hSf hc1 hc2
        obtain ⟨st, rfl, ok, hS2⟩ := hS.i1
        rw [hS2.nil]
        exact hret .ireturn (some (gI a)) (some (.int (Int32.ofInt a))) sh μ ad ls ws H locs cells slots pc hr (Or.inl hk) hs (show gVo ad b (some (gI a)) (some (.int (Int32.ofInt a))) from gVr.mkI (ad := ad) (b := b) ok) hW hP hD hSf (by omega) (by omega)
      · rename_i a hk hz
        intro ad ls st ws H locs cells slots hnl hL hS hW hP hD hSf hc1 hc2
        obtain ⟨st, rfl, ok, hS2⟩ := hS.i1
        rw [hS2.nil]
        exact hret .ireturn (some (gI a)) (some (.int (Int32.ofInt a))) sh μ ad ls ws H locs cells slots pc hr (Or.inr ⟨hk, hs.1⟩) hs.2 (show gVo ad b (some (gI a)) (some (.int (Int32.ofInt a))) from gVr.mkI (ad := ad) (b := b) ok) hW hP hD hSf (by omega) (by omega)
      · exact hs.elim
    | lreturn =>
      change (match (generalizing := false) S, M.2.2.2.1 with
        | [.inr (.inr (.inl a))], 3 => Q (some (gL a)) sh μ
        | _, _ => False) at hs
      split at hs
      · rename_i a hk hz
        intro ad ls st ws H locs cells slots hnl hL hS hW hP hD hSf hc1 hc2
        obtain ⟨st, rfl, hS2⟩ := hS.l1
        rw [hS2.nil]
        exact hret .lreturn (some (gL a)) (some (.long (Int64.ofInt a))) sh μ ad ls ws H locs cells slots pc hr hk hs (show gVo ad b (some (gL a)) (some (.long (Int64.ofInt a))) from gVr.mkL (ad := ad) (b := b)) hW hP hD hSf (by omega) (by omega)
      · exact hs.elim
    | areturn =>
      change (match (generalizing := false) S, M.2.2.2.1 with
        | [v], 4 => gIs (gTr v) (Q (some v) sh μ)
        | _, _ => False) at hs
      split at hs
      · rename_i v hk hz
        intro ad ls st ws H locs cells slots hnl hL hS hW hP hD hSf hc1 hc2
        obtain ⟨ht, hs⟩ := gIs_t hs
        obtain ⟨w, st, rfl, hw, hS2⟩ := hS.c1
        rw [hS2.nil]
        exact hret .areturn (some v) (some w) sh μ ad ls ws H locs cells slots pc hr ⟨ht, hk⟩ hs hw hW hP hD hSf (by omega) (by omega)
      · exact hs.elim
    | return_ =>
      change (match (generalizing := false) S, M.2.2.2.1 with
        | [], 0 => Q none sh μ
        | _, _ => False) at hs
      split at hs
      · rename_i hk hz
        intro ad ls st ws H locs cells slots hnl hL hS hW hP hD hSf hc1 hc2
        rw [hS.nil]
        exact hret .return_ none none sh μ ad ls ws H locs cells slots pc hr hk hs trivial hW hP hD hSf (by omega) (by omega)
      · exact hs.elim
    | _ => exact False.elim hs
end GG
