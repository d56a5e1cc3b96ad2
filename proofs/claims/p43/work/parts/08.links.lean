-- ===== PART A: goes FIRST, ahead of the names: the tables' words, and 'selects' of the private methods out of them =====
/-- a private method of a class that the tables say can be made, by its rows of tables_1 -/
def lw_okq (q : MethodName × Nat) : Prop := (q.1.cls ≠ "java/lang/invoke/MethodHandle" ∧ q.1.cls ≠ "java/lang/invoke/VarHandle") ∧ Cond.instantiable q.1.cls q.2 ∈ tables_1 ∧ Cond.privateMethod q.1 ∈ tables_1 ∧ Cond.instanceMethod q.1 ∈ tables_1
theorem lw_p0 : lw_okq (⟨"LayeredDrawing", "graphChanged", "()V"⟩, 7) := ⟨⟨by decide +kernel, by decide +kernel⟩, List.mem_of_getElem? (i := 12) (by decide +kernel), List.mem_of_getElem? (i := 315) (by decide +kernel), List.mem_of_getElem? (i := 316) (by decide +kernel)⟩
theorem lw_p1 : lw_okq (⟨"LayeredDrawing$Layering", "findDirections", "()V"⟩, 11) := ⟨⟨by decide +kernel, by decide +kernel⟩, List.mem_of_getElem? (i := 77) (by decide +kernel), List.mem_of_getElem? (i := 323) (by decide +kernel), List.mem_of_getElem? (i := 324) (by decide +kernel)⟩
theorem lw_p2 : lw_okq (⟨"LayeredDrawing$Layering", "findLayers", "()V"⟩, 11) := ⟨⟨by decide +kernel, by decide +kernel⟩, List.mem_of_getElem? (i := 77) (by decide +kernel), List.mem_of_getElem? (i := 333) (by decide +kernel), List.mem_of_getElem? (i := 334) (by decide +kernel)⟩
theorem lw_p3 : lw_okq (⟨"LayeredDrawing$Layering", "pushDown", "()I"⟩, 11) := ⟨⟨by decide +kernel, by decide +kernel⟩, List.mem_of_getElem? (i := 77) (by decide +kernel), List.mem_of_getElem? (i := 337) (by decide +kernel), List.mem_of_getElem? (i := 338) (by decide +kernel)⟩
theorem lw_p4 : lw_okq (⟨"LayeredDrawing$Layering", "pushOnce", "()I"⟩, 11) := ⟨⟨by decide +kernel, by decide +kernel⟩, List.mem_of_getElem? (i := 77) (by decide +kernel), List.mem_of_getElem? (i := 341) (by decide +kernel), List.mem_of_getElem? (i := 342) (by decide +kernel)⟩
theorem lw_p5 : lw_okq (⟨"LayeredDrawing$Layering", "betterFlow", "(I)Z"⟩, 11) := ⟨⟨by decide +kernel, by decide +kernel⟩, List.mem_of_getElem? (i := 77) (by decide +kernel), List.mem_of_getElem? (i := 345) (by decide +kernel), List.mem_of_getElem? (i := 346) (by decide +kernel)⟩
theorem lw_p6 : lw_okq (⟨"LayeredDrawing$Layering", "pusherOf", "(I)I"⟩, 11) := ⟨⟨by decide +kernel, by decide +kernel⟩, List.mem_of_getElem? (i := 77) (by decide +kernel), List.mem_of_getElem? (i := 349) (by decide +kernel), List.mem_of_getElem? (i := 350) (by decide +kernel)⟩
theorem lw_p7 : lw_okq (⟨"LayeredDrawing$Layering", "flowOfCycle", "(I)I"⟩, 11) := ⟨⟨by decide +kernel, by decide +kernel⟩, List.mem_of_getElem? (i := 77) (by decide +kernel), List.mem_of_getElem? (i := 353) (by decide +kernel), List.mem_of_getElem? (i := 354) (by decide +kernel)⟩
theorem lw_p8 : lw_okq (⟨"LayeredDrawing$Layering", "moveFlow", "(II)V"⟩, 11) := ⟨⟨by decide +kernel, by decide +kernel⟩, List.mem_of_getElem? (i := 77) (by decide +kernel), List.mem_of_getElem? (i := 361) (by decide +kernel), List.mem_of_getElem? (i := 362) (by decide +kernel)⟩
theorem lw_p9 : lw_okq (⟨"LayeredDrawing", "isNode", "(I)Z"⟩, 7) := ⟨⟨by decide +kernel, by decide +kernel⟩, List.mem_of_getElem? (i := 12) (by decide +kernel), List.mem_of_getElem? (i := 372) (by decide +kernel), List.mem_of_getElem? (i := 373) (by decide +kernel)⟩
theorem lw_p10 : lw_okq (⟨"LayeredDrawing$Order", "putVertex", "(II)V"⟩, 16) := ⟨⟨by decide +kernel, by decide +kernel⟩, List.mem_of_getElem? (i := 131) (by decide +kernel), List.mem_of_getElem? (i := 400) (by decide +kernel), List.mem_of_getElem? (i := 401) (by decide +kernel)⟩
theorem lw_p11 : lw_okq (⟨"LayeredDrawing$Order", "orderByNames", "()V"⟩, 16) := ⟨⟨by decide +kernel, by decide +kernel⟩, List.mem_of_getElem? (i := 131) (by decide +kernel), List.mem_of_getElem? (i := 404) (by decide +kernel), List.mem_of_getElem? (i := 405) (by decide +kernel)⟩
theorem lw_p12 : lw_okq (⟨"LayeredDrawing$Order", "closeGroups", "(I)V"⟩, 16) := ⟨⟨by decide +kernel, by decide +kernel⟩, List.mem_of_getElem? (i := 131) (by decide +kernel), List.mem_of_getElem? (i := 408) (by decide +kernel), List.mem_of_getElem? (i := 409) (by decide +kernel)⟩
theorem lw_p13 : lw_okq (⟨"LayeredDrawing$Order", "putGroup", "(IIII)I"⟩, 16) := ⟨⟨by decide +kernel, by decide +kernel⟩, List.mem_of_getElem? (i := 131) (by decide +kernel), List.mem_of_getElem? (i := 416) (by decide +kernel), List.mem_of_getElem? (i := 417) (by decide +kernel)⟩
theorem lw_p14 : lw_okq (⟨"LayeredDrawing$Order", "setPlaces", "(I)V"⟩, 16) := ⟨⟨by decide +kernel, by decide +kernel⟩, List.mem_of_getElem? (i := 131) (by decide +kernel), List.mem_of_getElem? (i := 427) (by decide +kernel), List.mem_of_getElem? (i := 428) (by decide +kernel)⟩
theorem lw_p15 : lw_okq (⟨"LayeredDrawing$Order", "spotOf", "(II)I"⟩, 16) := ⟨⟨by decide +kernel, by decide +kernel⟩, List.mem_of_getElem? (i := 131) (by decide +kernel), List.mem_of_getElem? (i := 455) (by decide +kernel), List.mem_of_getElem? (i := 456) (by decide +kernel)⟩
def lw_privs_1 : List (MethodName × Nat) := [(⟨"LayeredDrawing", "graphChanged", "()V"⟩, 7), (⟨"LayeredDrawing$Layering", "findDirections", "()V"⟩, 11), (⟨"LayeredDrawing$Layering", "findLayers", "()V"⟩, 11), (⟨"LayeredDrawing$Layering", "pushDown", "()I"⟩, 11), (⟨"LayeredDrawing$Layering", "pushOnce", "()I"⟩, 11), (⟨"LayeredDrawing$Layering", "betterFlow", "(I)Z"⟩, 11), (⟨"LayeredDrawing$Layering", "pusherOf", "(I)I"⟩, 11), (⟨"LayeredDrawing$Layering", "flowOfCycle", "(I)I"⟩, 11), (⟨"LayeredDrawing$Layering", "moveFlow", "(II)V"⟩, 11), (⟨"LayeredDrawing", "isNode", "(I)Z"⟩, 7), (⟨"LayeredDrawing$Order", "putVertex", "(II)V"⟩, 16), (⟨"LayeredDrawing$Order", "orderByNames", "()V"⟩, 16), (⟨"LayeredDrawing$Order", "closeGroups", "(I)V"⟩, 16), (⟨"LayeredDrawing$Order", "putGroup", "(IIII)I"⟩, 16), (⟨"LayeredDrawing$Order", "setPlaces", "(I)V"⟩, 16), (⟨"LayeredDrawing$Order", "spotOf", "(II)I"⟩, 16)]
theorem lw_r1 : ∀ q ∈ lw_privs_1, lw_okq q := List.forall_mem_cons.mpr ⟨lw_p0, List.forall_mem_cons.mpr ⟨lw_p1, List.forall_mem_cons.mpr ⟨lw_p2, List.forall_mem_cons.mpr ⟨lw_p3, List.forall_mem_cons.mpr ⟨lw_p4, List.forall_mem_cons.mpr ⟨lw_p5, List.forall_mem_cons.mpr ⟨lw_p6, List.forall_mem_cons.mpr ⟨lw_p7, List.forall_mem_cons.mpr ⟨lw_p8, List.forall_mem_cons.mpr ⟨lw_p9, List.forall_mem_cons.mpr ⟨lw_p10, List.forall_mem_cons.mpr ⟨lw_p11, List.forall_mem_cons.mpr ⟨lw_p12, List.forall_mem_cons.mpr ⟨lw_p13, List.forall_mem_cons.mpr ⟨lw_p14, List.forall_mem_cons.mpr ⟨lw_p15, fun _ h => absurd h List.not_mem_nil⟩⟩⟩⟩⟩⟩⟩⟩⟩⟩⟩⟩⟩⟩⟩⟩
theorem lw_p16 : lw_okq (⟨"LayeredDrawing$Order", "orderByWeights", "(II)V"⟩, 16) := ⟨⟨by decide +kernel, by decide +kernel⟩, List.mem_of_getElem? (i := 131) (by decide +kernel), List.mem_of_getElem? (i := 483) (by decide +kernel), List.mem_of_getElem? (i := 484) (by decide +kernel)⟩
theorem lw_p17 : lw_okq (⟨"LayeredDrawing$Order", "weigh", "(II)V"⟩, 16) := ⟨⟨by decide +kernel, by decide +kernel⟩, List.mem_of_getElem? (i := 131) (by decide +kernel), List.mem_of_getElem? (i := 487) (by decide +kernel), List.mem_of_getElem? (i := 488) (by decide +kernel)⟩
theorem lw_p18 : lw_okq (⟨"LayeredDrawing$Order", "isLighter", "(II)Z"⟩, 16) := ⟨⟨by decide +kernel, by decide +kernel⟩, List.mem_of_getElem? (i := 131) (by decide +kernel), List.mem_of_getElem? (i := 492) (by decide +kernel), List.mem_of_getElem? (i := 493) (by decide +kernel)⟩
theorem lw_p19 : lw_okq (⟨"LayeredDrawing", "packIfReordered", "()V"⟩, 7) := ⟨⟨by decide +kernel, by decide +kernel⟩, List.mem_of_getElem? (i := 12) (by decide +kernel), List.mem_of_getElem? (i := 496) (by decide +kernel), List.mem_of_getElem? (i := 497) (by decide +kernel)⟩
theorem lw_p20 : lw_okq (⟨"LayeredDrawing$Order", "moveTo", "(II)V"⟩, 16) := ⟨⟨by decide +kernel, by decide +kernel⟩, List.mem_of_getElem? (i := 131) (by decide +kernel), List.mem_of_getElem? (i := 517) (by decide +kernel), List.mem_of_getElem? (i := 518) (by decide +kernel)⟩
theorem lw_p21 : lw_okq (⟨"LayeredDrawing$Coordinates", "desiredLeft", "(II)I"⟩, 5) := ⟨⟨by decide +kernel, by decide +kernel⟩, List.mem_of_getElem? (i := 193) (by decide +kernel), List.mem_of_getElem? (i := 553) (by decide +kernel), List.mem_of_getElem? (i := 554) (by decide +kernel)⟩
theorem lw_p22 : lw_okq (⟨"LayeredDrawing$Coordinates", "putSorted", "(II)V"⟩, 5) := ⟨⟨by decide +kernel, by decide +kernel⟩, List.mem_of_getElem? (i := 193) (by decide +kernel), List.mem_of_getElem? (i := 559) (by decide +kernel), List.mem_of_getElem? (i := 560) (by decide +kernel)⟩
theorem lw_p23 : lw_okq (⟨"LayeredDrawing", "slotNumbered", "(I)LLayeredDrawing$Slot;"⟩, 7) := ⟨⟨by decide +kernel, by decide +kernel⟩, List.mem_of_getElem? (i := 12) (by decide +kernel), List.mem_of_getElem? (i := 581) (by decide +kernel), List.mem_of_getElem? (i := 582) (by decide +kernel)⟩
theorem lw_p24 : lw_okq (⟨"LayeredDrawing", "withDrawing", "(J)J"⟩, 7) := ⟨⟨by decide +kernel, by decide +kernel⟩, List.mem_of_getElem? (i := 12) (by decide +kernel), List.mem_of_getElem? (i := 603) (by decide +kernel), List.mem_of_getElem? (i := 604) (by decide +kernel)⟩
theorem lw_p25 : lw_okq (⟨"LayeredDrawing$Coordinates", "shift", "(II)I"⟩, 5) := ⟨⟨by decide +kernel, by decide +kernel⟩, List.mem_of_getElem? (i := 193) (by decide +kernel), List.mem_of_getElem? (i := 611) (by decide +kernel), List.mem_of_getElem? (i := 612) (by decide +kernel)⟩
theorem lw_p26 : lw_okq (⟨"LayeredDrawing", "isEdge", "(I)Z"⟩, 7) := ⟨⟨by decide +kernel, by decide +kernel⟩, List.mem_of_getElem? (i := 12) (by decide +kernel), List.mem_of_getElem? (i := 652) (by decide +kernel), List.mem_of_getElem? (i := 653) (by decide +kernel)⟩
theorem lw_p27 : lw_okq (⟨"LayeredDrawing", "isLayer", "(I)Z"⟩, 7) := ⟨⟨by decide +kernel, by decide +kernel⟩, List.mem_of_getElem? (i := 12) (by decide +kernel), List.mem_of_getElem? (i := 672) (by decide +kernel), List.mem_of_getElem? (i := 673) (by decide +kernel)⟩
theorem lw_p28 : lw_okq (⟨"LayeredDrawing$Coordinates", "sideOfNode", "(II)I"⟩, 5) := ⟨⟨by decide +kernel, by decide +kernel⟩, List.mem_of_getElem? (i := 193) (by decide +kernel), List.mem_of_getElem? (i := 758) (by decide +kernel), List.mem_of_getElem? (i := 759) (by decide +kernel)⟩
theorem lw_p29 : lw_okq (⟨"LayeredDrawing$Text", "readNumber", "(II)I"⟩, 9) := ⟨⟨by decide +kernel, by decide +kernel⟩, List.mem_of_getElem? (i := 216) (by decide +kernel), List.mem_of_getElem? (i := 804) (by decide +kernel), List.mem_of_getElem? (i := 805) (by decide +kernel)⟩
theorem lw_p30 : lw_okq (⟨"LayeredDrawing$Text", "readDigit", "(CC)I"⟩, 9) := ⟨⟨by decide +kernel, by decide +kernel⟩, List.mem_of_getElem? (i := 216) (by decide +kernel), List.mem_of_getElem? (i := 808) (by decide +kernel), List.mem_of_getElem? (i := 809) (by decide +kernel)⟩
theorem lw_p31 : lw_okq (⟨"LayeredDrawing$Text", "readOption", "(CCCI)I"⟩, 9) := ⟨⟨by decide +kernel, by decide +kernel⟩, List.mem_of_getElem? (i := 216) (by decide +kernel), List.mem_of_getElem? (i := 812) (by decide +kernel), List.mem_of_getElem? (i := 813) (by decide +kernel)⟩
def lw_privs_2 : List (MethodName × Nat) := [(⟨"LayeredDrawing$Order", "orderByWeights", "(II)V"⟩, 16), (⟨"LayeredDrawing$Order", "weigh", "(II)V"⟩, 16), (⟨"LayeredDrawing$Order", "isLighter", "(II)Z"⟩, 16), (⟨"LayeredDrawing", "packIfReordered", "()V"⟩, 7), (⟨"LayeredDrawing$Order", "moveTo", "(II)V"⟩, 16), (⟨"LayeredDrawing$Coordinates", "desiredLeft", "(II)I"⟩, 5), (⟨"LayeredDrawing$Coordinates", "putSorted", "(II)V"⟩, 5), (⟨"LayeredDrawing", "slotNumbered", "(I)LLayeredDrawing$Slot;"⟩, 7), (⟨"LayeredDrawing", "withDrawing", "(J)J"⟩, 7), (⟨"LayeredDrawing$Coordinates", "shift", "(II)I"⟩, 5), (⟨"LayeredDrawing", "isEdge", "(I)Z"⟩, 7), (⟨"LayeredDrawing", "isLayer", "(I)Z"⟩, 7), (⟨"LayeredDrawing$Coordinates", "sideOfNode", "(II)I"⟩, 5), (⟨"LayeredDrawing$Text", "readNumber", "(II)I"⟩, 9), (⟨"LayeredDrawing$Text", "readDigit", "(CC)I"⟩, 9), (⟨"LayeredDrawing$Text", "readOption", "(CCCI)I"⟩, 9)]
theorem lw_r2 : ∀ q ∈ lw_privs_2, lw_okq q := List.forall_mem_cons.mpr ⟨lw_p16, List.forall_mem_cons.mpr ⟨lw_p17, List.forall_mem_cons.mpr ⟨lw_p18, List.forall_mem_cons.mpr ⟨lw_p19, List.forall_mem_cons.mpr ⟨lw_p20, List.forall_mem_cons.mpr ⟨lw_p21, List.forall_mem_cons.mpr ⟨lw_p22, List.forall_mem_cons.mpr ⟨lw_p23, List.forall_mem_cons.mpr ⟨lw_p24, List.forall_mem_cons.mpr ⟨lw_p25, List.forall_mem_cons.mpr ⟨lw_p26, List.forall_mem_cons.mpr ⟨lw_p27, List.forall_mem_cons.mpr ⟨lw_p28, List.forall_mem_cons.mpr ⟨lw_p29, List.forall_mem_cons.mpr ⟨lw_p30, List.forall_mem_cons.mpr ⟨lw_p31, fun _ h => absurd h List.not_mem_nil⟩⟩⟩⟩⟩⟩⟩⟩⟩⟩⟩⟩⟩⟩⟩⟩
theorem lw_p32 : lw_okq (⟨"LayeredDrawing$Text", "take", "(C)Z"⟩, 9) := ⟨⟨by decide +kernel, by decide +kernel⟩, List.mem_of_getElem? (i := 216) (by decide +kernel), List.mem_of_getElem? (i := 816) (by decide +kernel), List.mem_of_getElem? (i := 817) (by decide +kernel)⟩
def lw_privs_3 : List (MethodName × Nat) := [(⟨"LayeredDrawing$Text", "take", "(C)Z"⟩, 9)]
theorem lw_r3 : ∀ q ∈ lw_privs_3, lw_okq q := List.forall_mem_cons.mpr ⟨lw_p32, fun _ h => absurd h List.not_mem_nil⟩
def lw_privs : List (MethodName × Nat) := lw_privs_1 ++ (lw_privs_2 ++ (lw_privs_3))
def lw_tbl : List Cond := k2_sels lw_privs ++ tables_1
theorem lw_privs_ok : ∀ q ∈ lw_privs, lw_okq q := by
  show ∀ q ∈ lw_privs_1 ++ (lw_privs_2 ++ (lw_privs_3)), lw_okq q
  exact List.forall_mem_append.mpr ⟨lw_r1, List.forall_mem_append.mpr ⟨lw_r2, lw_r3⟩⟩
/-! ===== how the tables' facts are checked by counting ===== -/
section GL
variable (T : Nat → GM) (F : Nat → List Nat) (Yf : Nat → MethodName) (Bf : Nat → ByteArray) (Rf : Nat → Option FieldType) (cl : List vw_C) (E : String) (nests : List (String × Nat × MethodName × String)) (good : List Jvm.Cond)
/-- what a link of a constant pool must give: its number, its kind, two numbers -/
def gLink (own : String) (q : Nat × Nat × Nat × Int) : Prop := match q with
  | (k, 0, x, y) => 0 ≤ y ∧ ∃ (C : String) (Tf : u_T) (N : Nat) (ty : Nat → FieldType), gFd cl F good x y.toNat C Tf N ty ∧ Jvm.Cond.fieldLink own k C (Tf y.toNat).2.1 (Tf y.toNat).2.2.1 ∈ good
  | (k, 1, x, y) => 0 ≤ y ∧ ∃ (C : String) (Tf : u_T) (N : Nat) (ty : Nat → FieldType), gFd cl F good x y.toNat C Tf N ty ∧ Jvm.Cond.fieldLink own k C (Tf y.toNat).2.1 (Tf y.toNat).2.2.1 ∈ good ∧ (Tf y.toNat).2.2.2 = false
  | (k, 2, x, y) => x < 1000 ∧ Jvm.Cond.methodLink own k (Yf x) ∈ good ∧ Jvm.Cond.static (Yf x) ∈ good ∧ Jvm.Cond.initialized (Yf x).cls ∈ good ∧ Jvm.Cond.code (Yf x) (Bf x) (T x).2.2.1 (Rf x) ∈ good ∧ ((Yf x).cls ≠ "java/lang/invoke/MethodHandle" ∧ (Yf x).cls ≠ "java/lang/invoke/VarHandle") ∧ (parseMethodDescriptor (Yf x).desc).map (fun d => d.parameters.length) = some y.toNat
  | (k, 3, x, y) => ∃ n : Nat, y = ((n + 1 : Nat) : Int) ∧ Jvm.Cond.methodLink own k (Yf x) ∈ good ∧ Jvm.Cond.instanceMethod (Yf x) ∈ good ∧ Jvm.Cond.selects (Yf x).cls (Yf x) (Yf x) ∈ good ∧ Jvm.Cond.initialized (Yf x).cls ∈ good ∧ Jvm.Cond.code (Yf x) (Bf x) (T x).2.2.1 (Rf x) ∈ good ∧ ((Yf x).cls ≠ "java/lang/invoke/MethodHandle" ∧ (Yf x).cls ≠ "java/lang/invoke/VarHandle") ∧ (parseMethodDescriptor (Yf x).desc).map (fun d => d.parameters.length) = some n ∧ (T x).1 < 100 ∧ ∃ (Tf : u_T) (N : Nat), cl[(T x).1]? = some ((Yf x).cls, Tf, N)
  | (k, 4, x, y) => x ≠ 1000 ∧ ∃ n : Nat, y = ((n + 1 : Nat) : Int) ∧ (Jvm.Cond.methodLink own k (Yf x) ∈ good ∨ ∃ host, (own, k, Yf x, host) ∈ nests) ∧ Jvm.Cond.instanceMethod (Yf x) ∈ good ∧ (Yf x).name = "<init>" ∧ Rf x = none ∧ Jvm.Cond.initialized (Yf x).cls ∈ good ∧ Jvm.Cond.code (Yf x) (Bf x) (T x).2.2.1 (Rf x) ∈ good ∧ ((Yf x).cls ≠ "java/lang/invoke/MethodHandle" ∧ (Yf x).cls ≠ "java/lang/invoke/VarHandle") ∧ (parseMethodDescriptor (Yf x).desc).map (fun d => d.parameters.length) = some n
  | (k, 5, x, _) => x = 1000 ∧ Jvm.Cond.methodLink own k Lib.objectInit ∈ good ∧ Jvm.Cond.instanceMethod Lib.objectInit ∈ good ∧ Jvm.Cond.code Lib.objectInit ⟨#[0xb1]⟩ 1 none ∈ good
  | (k, 6, x, _) => x = 1001 ∧ Jvm.Cond.methodLink own k arraycopyName ∈ good ∧ Jvm.Cond.native arraycopyName ∈ good ∧ Jvm.Cond.static arraycopyName ∈ good ∧ Jvm.Cond.initialized "java/lang/System" ∈ good
  | (k, 13, x, _) => ∃ (nm : MethodName) (bc : ByteArray) (n : Nat), (x = 1002 ∧ nm = Lib.Math.abs.name ∧ bc = Lib.Math.abs.code ∧ n = 1 ∨ x = 1003 ∧ nm = Lib.Math.max.name ∧ bc = Lib.Math.max.code ∧ n = 2 ∨ x = 1004 ∧ nm = Lib.Math.min.name ∧ bc = Lib.Math.min.code ∧ n = 2) ∧ Jvm.Cond.methodLink own k nm ∈ good ∧ Jvm.Cond.static nm ∈ good ∧ Jvm.Cond.initialized "java/lang/Math" ∈ good ∧ Jvm.Cond.code nm bc n (some .int) ∈ good
  | (k, 7, _, y) => Jvm.Cond.constant own k (Int32.ofInt y) ∈ good
  | (k, 8, _, y) => Jvm.Cond.constantLong own k (Int64.ofInt y) ∈ good
  | (k, 9, x, y) => ∃ (C : String) (Tf : u_T) (N : Nat) (ty : Nat → FieldType), cl[x]? = some (C, Tf, N) ∧ x < 100 ∧ y.toNat = N ∧ (∀ w ∈ u_ws C Tf N, w ∈ good) ∧ (∀ j, j < N → parseFieldDescriptor (Tf j).2.2.1 = some (ty j)) ∧ gOb F x N ty ∧ Jvm.Cond.classLink own k C ∈ good ∧ Jvm.Cond.instantiable C N ∈ good ∧ Jvm.Cond.initialized C ∈ good
  | (k, 10, _, _) => Jvm.Cond.classLink own k E ∈ good
  | (_, 11, x, _) => ∃ (Tf : u_T) (N : Nat), cl[x]? = some (E, Tf, N) ∧ x < 100
  | (k, 12, x, y) => 0 ≤ y ∧ ∃ (C : String) (Tf : u_T) (N : Nat) (ty : Nat → FieldType), gFd cl F good x y.toNat C Tf N ty ∧ Jvm.Cond.fieldLink own k C (Tf y.toNat).2.1 (Tf y.toNat).2.2.1 ∈ good ∧ (Tf y.toNat).2.2.2 = true ∧ C = own
  | _ => False
end GL
def gIl (lk : List (Nat × Nat × Nat × Int)) (k t x : Nat) (y : Int) : Bool := lk.any fun q => Nat.beq q.1 k && Nat.beq q.2.1 t && Nat.beq q.2.2.1 x && decide (q.2.2.2 = y)
theorem gIl_i {lk : List (Nat × Nat × Nat × Int)} {k t x : Nat} {y : Int} (h : gIl lk k t x y = true) : (k, t, x, y) ∈ lk := by
  obtain ⟨q, hq, h⟩ := List.any_eq_true.mp h
  simp only [Bool.and_eq_true, decide_eq_true_eq] at h
  obtain ⟨⟨⟨h1, h2⟩, h3⟩, h4⟩ := h
  obtain ⟨a, b, c, d⟩ := q
  have h1 := Nat.eq_of_beq_eq_true h1
  have h2 := Nat.eq_of_beq_eq_true h2
  have h3 := Nat.eq_of_beq_eq_true h3
  dsimp only at h1 h2 h3 h4
  subst h1; subst h2; subst h3; subst h4
  exact hq
def gCk (lk : List (Nat × Nat × Nat × Int)) (ini : Bool) (cc : ByteArray) (e : GE) : Bool := match e with
  | (pc, i, x, y) => match i with
    | .aload _ | .iload _ | .lload _ | .istore _ | .lstore _ | .bipush _ | .newarray _ => decide (decode cc pc = .ok (i, 2))
    | .sipush _ | .iinc _ _ => decide (decode cc pc = .ok (i, 3))
    | .if_icmp _ off | .ifCond _ off | .goto off | .ifnull off | .ifnonnull off => decide (decode cc pc = .ok (i, 3)) && decide ((pc : Int) + off = (x : Int))
    | .tableswitch _ _ _ _ => decide (decode cc pc = .ok (i, x))
    | .ldc k => decide (decode cc pc = .ok (i, 2)) && gIl lk k 7 x y
    | .ldc2_w k => decide (decode cc pc = .ok (i, 3)) && gIl lk k 8 x y
    | .getfield k => decide (decode cc pc = .ok (i, 3)) && gIl lk k 0 x y
    | .putfield k => decide (decode cc pc = .ok (i, 3)) && (gIl lk k 1 x y || (ini && gIl lk k 12 x y))
    | .new k => decide (decode cc pc = .ok (i, 3)) && gIl lk k 9 x y
    | .anewarray k => decide (decode cc pc = .ok (i, 3)) && gIl lk k 10 x y
    | .aastore => decide (decode cc pc = .ok (i, 1)) && gIl lk 0 11 x y
    | .invokestatic k => decide (decode cc pc = .ok (i, 3)) && (gIl lk k 6 x y || (gIl lk k 13 x y || gIl lk k 2 x y))
    | .invokevirtual k => decide (decode cc pc = .ok (i, 3)) && gIl lk k 3 x y
    | .invokespecial k => decide (decode cc pc = .ok (i, 3)) && (gIl lk k 5 x y || gIl lk k 4 x y)
    | _ => decide (decode cc pc = .ok (i, 1))
theorem gAt_mem : ∀ {code : List GE} {pc : Nat} {r : Instr × Nat × Int}, gAt code pc = some r → (pc, r) ∈ code
  | [], _, _, h => by cases h
  | e :: t, pc, r, h => by
    unfold gAt at h
    split at h
    · rename_i hb
      cases h
      rw [← Nat.eq_of_beq_eq_true hb]
      exact List.mem_cons_self
    · exact List.mem_cons_of_mem _ (gAt_mem h)
theorem g_rows {T : Nat → GM} {F : Nat → List Nat} {Yf : Nat → MethodName} {Bf : Nat → ByteArray} {Rf : Nat → Option FieldType} {cl : List vw_C} {E : String} {nests : List (String × Nat × MethodName × String)} {good : List Jvm.Cond} {own : String} {ini : Bool} {cc : ByteArray} {code : List GE} (lk : List (Nat × Nat × Nat × Int)) (hlk : ∀ q ∈ lk, gLink T F Yf Bf Rf cl E nests good own q) (hck : code.all (gCk lk ini cc) = true) :
    ∀ pc i x y, gAt code pc = some (i, x, y) → gRow T F Yf Bf Rf cl E nests good own ini cc pc i x y := by
  intro pc i x y h
  have h1 := List.all_eq_true.mp hck _ (gAt_mem h)
  have two : ∀ {a : Prop} [Decidable a] {b : Bool}, (decide a && b) = true → a ∧ b = true := fun {a} _ {b} q => by
    rw [Bool.and_eq_true, decide_eq_true_eq] at q; exact q
  cases i with
  | ldc k => exact ⟨(two h1).1, hlk _ (gIl_i (two h1).2)⟩
  | ldc2_w k => exact ⟨(two h1).1, hlk _ (gIl_i (two h1).2)⟩
  | getfield k => exact ⟨(two h1).1, hlk _ (gIl_i (two h1).2)⟩
  | putfield k =>
    obtain ⟨h2, h3⟩ := two h1
    rcases Bool.or_eq_true _ _ |>.mp h3 with h3 | h3
    · obtain ⟨a, C, Tf, N, ty, b, c, d⟩ := hlk _ (gIl_i h3)
      exact ⟨h2, a, C, Tf, N, ty, b, c, Or.inl d⟩
    · rw [Bool.and_eq_true] at h3
      obtain ⟨a, C, Tf, N, ty, b, c, d, e⟩ := hlk _ (gIl_i h3.2)
      exact ⟨h2, a, C, Tf, N, ty, b, c, Or.inr ⟨d, h3.1, e⟩⟩
  | new k => exact ⟨(two h1).1, hlk _ (gIl_i (two h1).2)⟩
  | anewarray k => exact ⟨(two h1).1, hlk _ (gIl_i (two h1).2)⟩
  | aastore => exact ⟨(two h1).1, hlk _ (gIl_i (two h1).2)⟩
  | invokestatic k =>
    obtain ⟨h2, h3⟩ := two h1
    rcases Bool.or_eq_true _ _ |>.mp h3 with h3 | h3
    · exact ⟨h2, Or.inl (hlk _ (gIl_i h3))⟩
    · rcases Bool.or_eq_true _ _ |>.mp h3 with h3 | h3
      · exact ⟨h2, Or.inr (Or.inl (hlk _ (gIl_i h3)))⟩
      · exact ⟨h2, Or.inr (Or.inr (hlk _ (gIl_i h3)))⟩
  | invokevirtual k => exact ⟨(two h1).1, hlk _ (gIl_i (two h1).2)⟩
  | invokespecial k =>
    obtain ⟨h2, h3⟩ := two h1
    rcases Bool.or_eq_true _ _ |>.mp h3 with h3 | h3
    · exact ⟨h2, Or.inl (hlk _ (gIl_i h3))⟩
    · exact ⟨h2, Or.inr (hlk _ (gIl_i h3))⟩
  | if_icmp k off => exact ⟨(two h1).1, of_decide_eq_true (two h1).2⟩
  | ifCond k off => exact ⟨(two h1).1, of_decide_eq_true (two h1).2⟩
  | goto off => exact ⟨(two h1).1, of_decide_eq_true (two h1).2⟩
  | ifnull off => exact ⟨(two h1).1, of_decide_eq_true (two h1).2⟩
  | ifnonnull off => exact ⟨(two h1).1, of_decide_eq_true (two h1).2⟩
  | _ => exact of_decide_eq_true (p := decode cc pc = .ok (_, _)) h1
