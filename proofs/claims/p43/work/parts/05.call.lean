/-! ===== new cells, copies, calls, ends ===== -/
def gFs0 : List Nat → List Value
  | [] => []
  | k :: t => (if k < 2 then .int 0 else .null) :: gFs0 t
theorem gFs0_len : ∀ t : List Nat, (gFs0 t).length = t.length
  | [] => rfl
  | _ :: t => by rw [gFs0, List.length_cons, List.length_cons, gFs0_len t]
theorem gIni_len : ∀ t : List Nat, (gIni t).length = t.length
  | [] => rfl
  | _ :: t => by rw [gIni, List.length_cons, List.length_cons, gIni_len t]
theorem gFs0_at : ∀ (t : List Nat) (j : Nat), (gFs0 t)[j]? = (t[j]?).map fun k => if k < 2 then .int 0 else .null
  | [], j => by simp [gFs0]
  | k :: t, 0 => by simp [gFs0]
  | k :: t, j + 1 => by simp [gFs0, gFs0_at t j]
theorem gIni_at : ∀ (t : List Nat) (j : Nat), (gIni t)[j]? = (t[j]?).map fun k => if k < 2 then none else some (gN 0)
  | [], j => by simp [gIni]
  | k :: t, 0 => by simp [gIni]
  | k :: t, j + 1 => by simp [gIni, gIni_at t j]
/-- what the tables say of all fields of a kind of object -/
def gOb (F : Nat → List Nat) (x : Nat) (N : Nat) (ty : Nat → FieldType) : Prop := (F x).length = N ∧ ∀ (k kd : Nat), (F x)[k]? = some kd → (match kd with
    | 0 => ty k = .int
    | 1 => ty k = .boolean
    | 2 => (∃ n, ty k = .object n) ∨ ∃ t, ty k = .array t
    | _ => False)
theorem gSr.wt {ad : List Nat} {b : Nat} : ∀ {S : List GV} {st : List Value}, gSr ad b S st → (st.map fun v => v.category).sum = gWt S
  | [], [], _ => rfl
  | v :: S, w :: st, h => by
    have ih := gSr.wt h.2
    have hv := h.1
    rw [List.map_cons, List.sum_cons, ih]
    rcases v with n | k | n | k
    · rw [hv.1]; rfl
    · obtain ⟨a, -, rfl⟩ := hv; rfl
    · rw [show w = .long (Int64.ofInt n) from hv]; rfl
    · match k, hv with
      | 0, hv => rw [show w = .null from hv]; rfl
      | 1, hv => rw [show w = .ref b from hv]; rfl
theorem gSr.len {ad : List Nat} {b : Nat} : ∀ {S : List GV} {st : List Value}, gSr ad b S st → st.length = S.length
  | [], [], _ => rfl
  | _ :: _, _ :: _, h => by rw [List.length_cons, List.length_cons, gSr.len h.2]
theorem gSr.app {ad : List Nat} {b : Nat} : ∀ {S : List GV} {st : List Value} {S2 : List GV} {st2 : List Value}, gSr ad b S st → gSr ad b S2 st2 → gSr ad b (S ++ S2) (st ++ st2)
  | [], [], _, _, _, h2 => h2
  | _ :: _, _ :: _, _, _, h, h2 => ⟨h.1, gSr.app h.2 h2⟩
theorem gSr.rev {ad : List Nat} {b : Nat} : ∀ {S : List GV} {st : List Value}, gSr ad b S st → gSr ad b S.reverse st.reverse
  | [], [], _ => trivial
  | v :: S, w :: st, h => by
    rw [List.reverse_cons, List.reverse_cons]
    exact (gSr.rev h.2).app ⟨h.1, trivial⟩
theorem gSr.take {ad : List Nat} {b : Nat} : ∀ (n : Nat) {S : List GV} {st : List Value}, gSr ad b S st → gSr ad b (S.take n) (st.take n) ∧ gSr ad b (S.drop n) (st.drop n)
  | 0, _, _, h => ⟨trivial, h⟩
  | n + 1, [], [], _ => ⟨trivial, trivial⟩
  | n + 1, _ :: _, _ :: _, h => ⟨⟨h.1, (gSr.take n h.2).1⟩, (gSr.take n h.2).2⟩
theorem gSr.at {ad : List Nat} {b : Nat} : ∀ {S : List GV} {st : List Value}, gSr ad b S st → ∀ {i : Nat} {v : GV}, S[i]? = some v → ∃ w, st[i]? = some w ∧ gVr ad b v w
  | [], [], _, i, v, hv => by simp at hv
  | u :: S, w :: st, h, 0, v, hv => by
    simp at hv; subst hv
    exact ⟨w, rfl, h.1⟩
  | u :: S, w :: st, h, i + 1, v, hv => by
    obtain ⟨x, h1, h2⟩ := gSr.at h.2 (i := i) (v := v) (by simpa using hv)
    exact ⟨x, by simpa using h1, h2⟩
theorem g_push {ad : List Nat} (q : Nat) (k a : Nat) (h : ad[k]? = some a) : (ad ++ [q])[k]? = some a := by
  rw [List.getElem?_append_left (List.getElem?_eq_some_iff.mp h).1]; exact h
theorem g_pushed {ad : List Nat} {n : Nat} (q : Nat) (h : ad.length = n) : (ad ++ [q])[n]? = some q := by
  subst h
  rw [List.getElem?_append_right (Nat.le_refl _), Nat.sub_self]; rfl
theorem gZ_s (μ : MU) (a : Nat) : gZ μ a a = fun _ => 0 := if_pos rfl
theorem gZ_o (μ : MU) {a k : Nat} (h : k ≠ a) : gZ μ a k = μ k := if_neg h
section GN
variable {p : Program} {l : Launch} {e : Env} {R : Room} {s : State} {m : MethodId} {args : Array Value} {below : List Frame} {meth : Method} {c : Code} {Qf : State → Prop}
variable {D : va_G} {cl : List vw_C} {cA : Nat → ClassId} {a0 : List Nat} {A : Nat → Prop} {b MC MS : Nat} {cc : ByteArray}
variable {pc : Nat} {L S : List GV} {sh : SH} {μ : MU} {mc ms : Nat}
variable {P0 : GP} {E own C : String} {Ts : List Cond} {F : Nat → List Nat}
theorem s_newarray (hx : p.tables.exec = Jvm.exec) (hb : c.code = cc) (hK : va_K D cl (gTys cA E) s) (hA : ∀ q, s.heap.size ≤ q → A q) (hMC : MC ≤ R.cells) (hMS : MS ≤ R.slots) (har : ∀ w ∈ ([.arrayClass .int, .arrayClass .boolean, .arrayClass .char] : List Jvm.Cond), w.before args s = true) {t : ArrayType} (hdg : decode cc pc = .ok (.newarray t, 2)) (h0 : ∀ pc L S sh μ mc ms, P0 pc L S sh μ mc ms → gSP p l e R s m args below meth c Qf D cl cA a0 A b MC MS pc L S sh μ mc ms) (hs : g1 S fun n S' => gIs (decide (0 ≤ n) && decide (n ≤ 100000) && Nat.ble 100 (gKind t) && Nat.ble 1 mc && Nat.ble n.toNat ms) (P0 (pc + 2) L (gR sh.length :: S') (sh ++ [(gKind t, n.toNat, [])]) (gZ μ sh.length) (mc - 1) (ms - n.toNat))) : gSP p l e R s m args below meth c Qf D cl cA a0 A b MC MS pc L S sh μ mc ms := by
  intro ad ls st ws H locs cells slots hnl hL hS hW hP hD hSf hc1 hc2
  obtain ⟨n, S', rfl, hs⟩ := g1_i hs
  obtain ⟨hq, hs⟩ := gIs_t hs
  simp only [Bool.and_eq_true, decide_eq_true_eq] at hq
  obtain ⟨⟨⟨⟨hn0, hn1⟩, hkd⟩, hmc⟩, hms⟩ := hq
  have hmc := Nat.le_of_ble_eq_true hmc
  have hms := Nat.le_of_ble_eq_true hms
  obtain ⟨st, rfl, okn, hS⟩ := hS.i1
  have hneg : ¬ Int32.ofInt n < 0 := by
    rw [show (0 : Int32) = Int32.ofInt 0 from rfl, g_lt okn (by decide)]; omega
  have fin : ∀ (u : Nat) (ty : FieldType), u < 3 → gKind t = 100 + u → (gTys cA E)[u]? = some (cA u, ty) → (∀ (x y : ClassId), va_RA s x ty → va_RA s y ty → x = y) → ∀ (q : Nat) (cA' : ClassId) (H1 : Heap), va_K D cl (gTys cA E ++ [(cA', ty)]) s → va_P D cl (ws ++ [(q, .inl (cA', n.toNat, .inl (fun _ => (0 : Int32))))]) H1 → va_D A (ws ++ [(q, .inl (cA', n.toNat, .inl (fun _ => (0 : Int32))))]) → va_S A s.heap H1 locs →
      W p l e R s m args below meth c H1 locs (cells + 1) (slots + n.toNat) Qf (F0 m (pc + 2) ls (.ref q :: st)) := by
    intro u ty hu hku htu hinj q cA' H1 hK' hP1 hD1 hS1
    have hcA : cA' = cA u := hinj _ _ (hK'.2 4 (cA', ty) rfl).2 (hK.2 u _ htu).2
    subst hcA
    have hW1 := hW.push (μ' := gZ μ sh.length) (q := q) (c := (gKind t, n.toNat, [])) (e := .inl (cA u, n.toNat, .inl (fun _ => (0 : Int32)))) (by
      refine Or.inr (Or.inl ⟨by show 100 ≤ gKind t; omega, by show gKind t < 103; omega, fun _ => 0, ?_, fun j hj => ?_⟩)
      · show _ = Sum.inl (cA (gKind t - 100), n.toNat, Sum.inl fun _ => 0)
        rw [hku, Nat.add_sub_cancel_left]
      · rw [gZ_s]; exact ⟨rfl, show gOk 0 by decide⟩) (fun j hj => gZ_o μ hj)
    exact h0 _ _ _ _ _ _ _ hs (ad ++ [q]) ls _ _ H1 locs (cells + 1) (slots + n.toNat) hnl (hL.mono (g_push q)) (gSr.mk (gVr.mkR (g_pushed q hW.len)) (hS.mono (g_push q))) hW1 hP1 hD1 hS1 (by omega) (by omega)
  cases t with
  | int => exact va_newa (atype := .int) (ty := .int) (N' := n.toNat) (a0 := (n.toNat, .inl (fun _ => (0 : Int32)))) hx hb (har (.arrayClass .int) (by simp)) rfl hK hP hD hSf hA (fun _ => rfl) hneg (g_cl okn) (show n.toNat * 4 ≤ 536870912 by omega) (by omega) (by omega) hdg (fin 0 .int (by decide) rfl rfl (fun x y h1 h2 => Option.some.inj (h1.symm.trans h2)))
  | boolean => exact va_newa (atype := .boolean) (ty := .boolean) (N' := n.toNat) (a0 := (n.toNat, .inl (fun _ => (0 : Int32)))) hx hb (har (.arrayClass .boolean) (by simp)) rfl hK hP hD hSf hA (fun _ => rfl) hneg (g_cl okn) (show n.toNat * 1 ≤ 536870912 by omega) (by omega) (by omega) hdg (fin 1 .boolean (by decide) rfl rfl (fun x y h1 h2 => Option.some.inj (h1.symm.trans h2)))
  | char => exact va_newa (atype := .char) (ty := .char) (N' := n.toNat) (a0 := (n.toNat, .inl (fun _ => (0 : Int32)))) hx hb (har (.arrayClass .char) (by simp)) rfl hK hP hD hSf hA (fun _ => rfl) hneg (g_cl okn) (show n.toNat * 2 ≤ 536870912 by omega) (by omega) (by omega) hdg (fin 2 .char (by decide) rfl rfl (fun x y h1 h2 => Option.some.inj (h1.symm.trans h2)))
  | _ => exact absurd hkd (by decide)
theorem s_anew (hx : p.tables.exec = Jvm.exec) (hb : c.code = cc) (hK : va_K D cl (gTys cA E) s) (hA : ∀ q, s.heap.size ≤ q → A q) (hMC : MC ≤ R.cells) (hMS : MS ≤ R.slots) {idx : Nat} (hown : s.vm.findClass own = some m.cls) (hcl : (Cond.classLink own idx E).before args s = true) (hAO : va_AO E s) (hdg : decode cc pc = .ok (.anewarray idx, 3)) (h0 : ∀ pc L S sh μ mc ms, P0 pc L S sh μ mc ms → gSP p l e R s m args below meth c Qf D cl cA a0 A b MC MS pc L S sh μ mc ms) (hs : g1 S fun n S' => gIs (decide (0 ≤ n) && decide (n ≤ 100000) && Nat.ble 1 mc && Nat.ble n.toNat ms) (P0 (pc + 3) L (gR sh.length :: S') (sh ++ [(103, n.toNat, List.replicate n.toNat (some (gN 0)))]) (gZ μ sh.length) (mc - 1) (ms - n.toNat))) : gSP p l e R s m args below meth c Qf D cl cA a0 A b MC MS pc L S sh μ mc ms := by
  intro ad ls st ws H locs cells slots hnl hL hS hW hP hD hSf hc1 hc2
  obtain ⟨n, S', rfl, hs⟩ := g1_i hs
  obtain ⟨hq, hs⟩ := gIs_t hs
  simp only [Bool.and_eq_true, decide_eq_true_eq] at hq
  obtain ⟨⟨⟨hn0, hn1⟩, hmc⟩, hms⟩ := hq
  have hmc := Nat.le_of_ble_eq_true hmc
  have hms := Nat.le_of_ble_eq_true hms
  obtain ⟨st, rfl, okn, hS⟩ := hS.i1
  have hneg : ¬ Int32.ofInt n < 0 := by
    rw [show (0 : Int32) = Int32.ofInt 0 from rfl, g_lt okn (by decide)]; omega
  refine va_newq hx hb hown hcl hAO hK hP hD hSf hA hneg (g_cl okn) (by omega) (by omega) (by omega) hdg fun q cA' H1 hK' hP1 hD1 hS1 => ?_
  have hcA : cA' = cA 3 := by
    obtain ⟨_, _, _, _, _, h1⟩ := (hK'.2 4 (cA', .object E) rfl).2
    obtain ⟨_, _, _, _, _, h2⟩ := (hK.2 3 (cA 3, .object E) rfl).2
    exact Option.some.inj (h1.symm.trans h2)
  subst hcA
  have hW1 := hW.push (μ' := gZ μ sh.length) (q := q) (c := (103, n.toNat, List.replicate n.toNat (some (gN 0)))) (e := .inl (cA 3, n.toNat, .inr (.inr (.inr (.inr (fun _ => none)))))) (by
    refine Or.inr (Or.inr ⟨rfl, List.length_replicate, fun _ => none, rfl, fun j o ho => Or.inl ⟨?_, rfl⟩⟩)
    have h9 := (List.getElem?_eq_some_iff.mp ho)
    obtain ⟨h10, h11⟩ := h9
    rw [← h11]
    exact List.getElem_replicate ..) (fun j hj => gZ_o μ hj)
  exact h0 _ _ _ _ _ _ _ hs (ad ++ [q]) ls _ _ H1 locs (cells + 1) (slots + n.toNat) hnl (hL.mono (g_push q)) (gSr.mk (gVr.mkR (g_pushed q hW.len)) (hS.mono (g_push q))) hW1 hP1 hD1 hS1 (by omega) (by omega)
theorem s_new (hx : p.tables.exec = Jvm.exec) (hb : c.code = cc) (hK : va_K D cl (gTys cA E) s) (hA : ∀ q, s.heap.size ≤ q → A q) (hMC : MC ≤ R.cells) (hMS : MS ≤ R.slots) {idx x : Nat} {y : Int} {Tf : u_T} {N : Nat} {ty : Nat → FieldType} (hts : ∀ w ∈ Ts, w.before args s = true) (hown : s.vm.findClass own = some m.cls) (hcl : cl[x]? = some (C, Tf, N)) (hx1 : x < 100) (hy : y.toNat = N) (hin : ∀ w ∈ u_ws C Tf N, w ∈ Ts) (hty : ∀ j, j < N → parseFieldDescriptor (Tf j).2.2.1 = some (ty j)) (hob : gOb F x N ty) (hlk : (Cond.classLink own idx C).before args s = true) (hins : (Cond.instantiable C N).before args s = true) (hini : (Cond.initialized C).before args s = true) (hdg : decode cc pc = .ok (.new idx, 3)) (h0 : ∀ pc L S sh μ mc ms, P0 pc L S sh μ mc ms → gSP p l e R s m args below meth c Qf D cl cA a0 A b MC MS pc L S sh μ mc ms) (hs : gIs (Nat.ble 1 mc && Nat.ble y.toNat ms) (P0 (pc + 3) L (gR sh.length :: S) (sh ++ [(x, y.toNat, gIni (F x))]) (gZ μ sh.length) (mc - 1) (ms - y.toNat))) : gSP p l e R s m args below meth c Qf D cl cA a0 A b MC MS pc L S sh μ mc ms := by
  intro ad ls st ws H locs cells slots hnl hL hS hW hP hD hSf hc1 hc2
  obtain ⟨hq, hs⟩ := gIs_t hs
  rw [Bool.and_eq_true] at hq
  have hmc := Nat.le_of_ble_eq_true hq.1
  have hms := Nat.le_of_ble_eq_true hq.2
  rw [hy] at hs hms
  obtain ⟨hlen, hkd⟩ := hob
  have hdv : ∀ j, j < N → defaultValue (ty j) = vp_V (gFs0 (F x)) j := by
    intro j hj
    have h1 : (F x)[j]? = some (F x)[j] := List.getElem?_eq_getElem (by omega)
    have h2 := hkd j _ h1
    have h3 : (gFs0 (F x))[j]? = some (if (F x)[j] < 2 then .int 0 else .null) := by rw [gFs0_at, h1]; rfl
    show _ = (gFs0 (F x)).getD j .null
    rw [List.getD_eq_getElem?_getD, h3]
    match h9 : (F x)[j], h2 with
    | 0, h2 => rw [show ty j = .int from h2]; rfl
    | 1, h2 => rw [show ty j = .boolean from h2]; rfl
    | 2, h2 =>
      rcases h2 with ⟨n, e1⟩ | ⟨n, e1⟩ <;> rw [e1] <;> rfl
  refine va_new hx hb hts hin ty hty hown hlk hins hini hK hP hD hSf hA hcl hdv (by omega) (by omega) hdg fun q H1 hP1 hD1 hS1 => ?_
  have hW1 := hW.push (μ' := gZ μ sh.length) (q := q) (c := (x, N, gIni (F x))) (e := .inr (x, gFs0 (F x))) (by
    refine Or.inl ⟨hx1, by rw [gIni_len]; exact hlen, _, rfl, by rw [gFs0_len]; exact hlen, fun j o ho => ?_⟩
    have ho : (gIni (F x))[j]? = some o := ho
    rw [gIni_at] at ho
    rw [gFs0_at]
    cases hkk : (F x)[j]? with
    | none => rw [hkk] at ho; cases ho
    | some kd =>
      rw [hkk] at ho
      cases ho
      by_cases h2 : kd < 2
      · refine ⟨.int 0, by simp [h2], ?_⟩
        dsimp only
        rw [if_pos h2]
        show gVr _ b (gI (gZ μ sh.length sh.length j)) _
        rw [gZ_s]
        exact ⟨rfl, show gOk 0 by decide⟩
      · refine ⟨.null, by simp [h2], ?_⟩
        dsimp only
        rw [if_neg h2]
        exact ⟨rfl, rfl⟩) (fun j hj => gZ_o μ hj)
  exact h0 _ _ _ _ _ _ _ hs (ad ++ [q]) ls _ _ H1 locs (cells + 1) (slots + N) hnl (hL.mono (g_push q)) (gSr.mk (gVr.mkR (g_pushed q hW.len)) (hS.mono (g_push q))) hW1 hP1 hD1 hS1 (by omega) (by omega)
theorem s_copy (hx : p.tables.exec = Jvm.exec) (hb : c.code = cc) (hK : va_K D cl (gTys cA E) s) {idx : Nat} (hown : s.vm.findClass own = some m.cls) (hlink : (Cond.methodLink own idx arraycopyName).before args s = true) (hnat : (Cond.native arraycopyName).before args s = true) (hstat : (Cond.static arraycopyName).before args s = true) (hini : (Cond.initialized "java/lang/System").before args s = true) (hR1 : 1 ≤ R.frames) (hR2 : 40 ≤ R.locals) (hdg : decode cc pc = .ok (.invokestatic idx, 3)) (h0 : ∀ pc L S sh μ mc ms, P0 pc L S sh μ mc ms → gSP p l e R s m args below meth c Qf D cl cA a0 A b MC MS pc L S sh μ mc ms) (hs : gCopy P0 pc L S sh μ mc ms) : gSP p l e R s m args below meth c Qf D cl cA a0 A b MC MS pc L S sh μ mc ms := by
  intro ad ls st ws H locs cells slots hnl hL hS hW hP hD hSf hc1 hc2
  unfold gCopy at hs
  split at hs
  · rename_i n dp bb sp aa S'
    obtain ⟨ka, hka, hs⟩ := gCel_i hs
    obtain ⟨kb, hkb, hs⟩ := gCel_i hs
    obtain ⟨hq, ⟨h1, h2, h3, h4, h5⟩, hs⟩ := gIs_t hs
    rw [Bool.and_eq_true, Bool.and_eq_true] at hq
    have hqa : ka.1 = 100 + 0 := Nat.eq_of_beq_eq_true hq.1.1
    have hqb : kb.1 = 100 + 0 := Nat.eq_of_beq_eq_true hq.1.2
    have hwt := Nat.le_of_ble_eq_true hq.2
    obtain ⟨st, rfl, okn, hS⟩ := hS.i1
    obtain ⟨st, rfl, okd, hS⟩ := hS.i1
    obtain ⟨ba, st, rfl, hba, hS⟩ := hS.r1
    obtain ⟨st, rfl, oks, hS⟩ := hS.i1
    obtain ⟨aaa, st, rfl, haa, hS⟩ := hS.r1
    obtain ⟨ea, hea, hca⟩ := hW.at hka haa
    obtain ⟨eb, heb, hcb⟩ := hW.at hkb hba
    obtain ⟨f, rfl, hf⟩ := gCe_a hca hqa (by decide)
    obtain ⟨g, rfl, hg⟩ := gCe_a hcb hqb (by decide)
    have hnn : ∀ {z : Int}, gOk z → 0 ≤ z → ¬ Int32.ofInt z < 0 := fun {z} hz h => by
      rw [show (0 : Int32) = Int32.ofInt 0 from rfl, g_lt hz (by decide)]; omega
    obtain ⟨lv, hlv, hlv2⟩ := id hL
    refine va_copyi hx hb (by rw [hnl]; exact hlv.1.symm) hown hlink hnat hstat hini hK hP hD hSf aa bb 0 0 hea heb rfl rfl rfl (hnn oks h1) (hnn okd h2) (hnn okn h3) (by rw [g_cl oks, g_cl okn]; omega) (by rw [g_cl okd, g_cl okn]; omega) (fun _ _ => rfl) hR1 (by rw [hS.wt, show nativeFrameWords "java/lang/System" "arraycopy" 5 = 7 from by decide]; omega) hdg fun H1 locs1 hP1 hD1 hS1 => ?_
    have hW1 := hW.set (μ' := gCp μ aa sp bb dp n) (c' := kb) (e' := .inl (cA 0, kb.2.1, .inl (va_cpy f g (Int32.ofInt sp).toNatClampNeg (Int32.ofInt dp).toNatClampNeg (Int32.ofInt n).toNatClampNeg))) hkb heb (by
      refine Or.inr (Or.inl ⟨by omega, by omega, _, by rw [hqb], fun j hj => ?_⟩)
      rw [g_cl oks, g_cl okd, g_cl okn]
      have hrow : gCp μ aa sp bb dp n bb = fun j => if dp ≤ j ∧ j < dp + n then μ aa (sp + (j - dp)) else μ bb j := if_pos rfl
      rw [hrow]
      by_cases hin : dp ≤ (j : Int) ∧ (j : Int) < dp + n
      · rw [pk_cpy_in (by omega) (by omega)]
        have h9 := hf (sp.toNat + (j - dp.toNat)) (by omega)
        rw [show ((sp.toNat + (j - dp.toNat) : Nat) : Int) = sp + (j - dp) by omega] at h9
        simp only [hin, and_self, if_true]
        exact h9
      · rw [pk_cpy_out (by omega)]
        simp only [hin, if_false]
        exact hg j hj) (fun j hj => if_neg hj)
    rw [gSh_set hkb] at hW1
    exact h0 _ _ _ _ _ _ _ hs ad ls _ _ H1 locs1 cells slots hnl hL hS hW1 hP1 hD1 hS1 hc1 hc2
  · exact hs.elim
theorem s_objInit (hx : p.tables.exec = Jvm.exec) (hb : c.code = cc) {idx : Nat} (hown : s.vm.findClass own = some m.cls) (hlink : (Cond.methodLink own idx Lib.objectInit).before args s = true) (hinst : (Cond.instanceMethod Lib.objectInit).before args s = true) (hcode : (Cond.code Lib.objectInit ⟨#[0xb1]⟩ 1 none).before args s = true) (hR1 : 1 ≤ R.frames) (hR2 : 40 ≤ R.locals) (hdg : decode cc pc = .ok (.invokespecial idx, 3)) (h0 : ∀ pc L S sh μ mc ms, P0 pc L S sh μ mc ms → gSP p l e R s m args below meth c Qf D cl cA a0 A b MC MS pc L S sh μ mc ms) (hs : gRf S fun _ S' => gIs (Nat.ble (gWt S') 8) (P0 (pc + 3) L S' sh μ mc ms)) : gSP p l e R s m args below meth c Qf D cl cA a0 A b MC MS pc L S sh μ mc ms := by
  intro ad ls st ws H locs cells slots hnl hL hS hW hP hD hSf hc1 hc2
  obtain ⟨a, S', rfl, hs⟩ := gRf_i hs
  obtain ⟨hq, hs⟩ := gIs_t hs
  have hq := Nat.le_of_ble_eq_true hq
  obtain ⟨aa, st, rfl, haa, hS⟩ := hS.r1
  obtain ⟨lv, hlv, hlv2⟩ := id hL
  refine W.objInit hx hb hown hlink hinst hcode rfl (by rw [hnl]; exact hlv.1) rfl hdg hR1 (by rw [hS.wt]; show 2 * 0 + _ + 12 ≤ _; omega) ?_
  exact W.eq rfl (h0 _ _ _ _ _ _ _ hs ad ls st ws H locs cells slots hnl hL hS hW hP hD hSf hc1 hc2)
/-- behind any call -/
theorem g_back {Qa : State → Outcome → State → Prop} {mc' ms' cells slots : Nat} {H : Heap} {locs : List Loc} {ls : Array Slot} {st0 rest : List Value} {free : Addr → Prop} (hr : va_Run p l e R s m args below meth c H locs cells slots mc' ms' (F0 m pc ls st0) rest Qa free)
    (kk : ∀ (v : Option Value) (u t : State) (H1 : Heap) (L1 : List Loc), u.heap = H → t.heap = H1 → s.vm.Alike t.vm → Qa u (.returned v) t → (∀ q ∈ L1, free q.base) → W p l e R s m args below meth c H1 (locs ++ L1) (cells + mc') (slots + ms') Qf (F0 m (pc + 3) ls (v.toList ++ rest))) : W p l e R s m args below meth c H locs cells slots Qf (F0 m pc ls st0) := by
  intro T hT X
  obtain ⟨v, st₀, t, T', L1, e0, X', hL, e1, e2, hq, st⟩ := hr T hT X
  obtain ⟨t2, a1, b1⟩ := kk v st₀ t T'.heap L1 e0 e1.symm (by rw [← e2]; exact X'.warmed.alike) hq hL T' rfl X'
  exact ⟨t2, st t2 a1, b1⟩
def gVo (ad : List Nat) (b : Nat) : Option GV → Option Value → Prop
  | none, none => True
  | some g, some v => gVr ad b g v
  | _, _ => False
theorem gVo.sr {ad : List Nat} {b : Nat} {r : Option GV} {v : Option Value} (h : gVo ad b r v) {S : List GV} {st : List Value} (hS : gSr ad b S st) : gSr ad b (r.toList ++ S) (v.toList ++ st) := by
  cases r with
  | none =>
    cases v with
    | none => exact hS
    | some v => exact h.elim
  | some g =>
    cases v with
    | none => exact h.elim
    | some v => exact ⟨h, hS⟩
/-- what is known of the tables at every state of the run -/
def gKx (D : va_G) (cl : List vw_C) (cA : Nat → ClassId) (E : String) (nests : List (String × Nat × MethodName × String)) (U : State) : Prop := va_K D cl (gTys cA E) U ∧ (∀ q ∈ nests, va_Nw (.methodLinkNest q.1 q.2.1 q.2.2.1 q.2.2.2) U) ∧ va_AO E U
theorem gKx.same {cl : List vw_C} {nests : List (String × Nat × MethodName × String)} {u U : State} (h : gKx D cl cA E nests u) (he : u.vm = U.vm) : gKx D cl cA E nests U := by
  have hal : u.vm.Alike U.vm := by rw [he]; exact Vm.Alike.refl _
  exact ⟨va_K.moved hal h.1, fun q hq => va_Nw.same rfl he (h.2.1 q hq), va_AO.moved hal h.2.2⟩
theorem gKx.warm {cl : List vw_C} {nests : List (String × Nat × MethodName × String)} {u U : State} (h : gKx D cl cA E nests u) (hw : u.WarmedH U.vm) : gKx D cl cA E nests U :=
  ⟨va_K.moved hw.alike h.1, fun q hq => va_Nw.warmM hw (h.2.1 q hq), va_AO.moved hw.alike h.2.2⟩
/-- the script, at every state of the run -/
def gZc (b : Nat) (NN : Int) (XX : Int → Int) (A : Nat → Prop) (U : State) : Prop := ∃ (Ls : Nat) (xs : Nat → Int32), va_X b Ls xs U U.heap ∧ b < U.heap.size ∧ ¬ A b ∧ NN = Ls ∧ Ls < 2147483648 ∧ ∀ j : Nat, j < Ls → xs j = Int32.ofInt (XX j) ∧ gOk (XX j)
theorem gZc.at {b : Nat} {NN : Int} {XX : Int → Int} {A : Nat → Prop} {s U : State} {H : Heap} {locs : List Loc} (h : gZc b NN XX A s) (hS : va_S A s.heap H locs) (hU : U.heap = H) (hw : s.WarmedH U.vm) : gZc b NN XX A U := by
  obtain ⟨Ls, xs, h1, h2, h3, h4⟩ := h
  refine ⟨Ls, xs, (h1.kept ?_).moved hw.alike, by rw [hU]; exact Nat.lt_of_lt_of_le h2 hS.1, h3, h4⟩
  rw [hU]
  exact hS.2.1 b h2 h3
def gPre (D : va_G) (cl : List vw_C) (cA : Nat → ClassId) (E : String) (nests : List (String × Nat × MethodName × String)) (A : Nat → Prop) (b : Nat) (NN : Int) (XX : Int → Int) (ws : va_W) (U : State) : Prop := va_P D cl ws U.heap ∧ va_D A ws ∧ gKx D cl cA E nests U ∧ (∀ q, U.heap.size ≤ q → A q) ∧ gZc b NN XX A U
def gPost (D : va_G) (cl : List vw_C) (cA : Nat → ClassId) (A : Nat → Prop) (b : Nat) (ad : List Nat) (Q : GQ) : Array Value → State → Outcome → State → Prop := fun _ u oc t =>
  (∃ (r : Option GV) (sh' : SH) (μ' : MU) (ad' : List Nat) (ws' : va_W) (v : Option Value), oc = .returned v ∧ gVo ad' b r v ∧ Q r sh' μ' ∧ gWr cA ad ad' b sh' μ' ws' ∧ va_P D cl ws' t.heap ∧ va_D A ws') ∧ va_F A u t
/-- the contract of the method j, from a call of the small machine -/
def gCt (l : Launch) (T : Nat → GM) (Yf : Nat → MethodName) (gws : Nat → List Cond) (rm : Nat → Room) (D : va_G) (cl : List vw_C) (cA : Nat → ClassId) (E : String) (nests : List (String × Nat × MethodName × String)) (A : Nat → Prop) (b : Nat) (NN : Int) (XX : Int → Int) (call : GCall) : Prop :=
  ∀ (j : Nat) (as : List GV) (sh : SH) (μ : MU) (Q : GQ), call j as sh μ Q → ∀ (ad : List Nat) (ws : va_W) (st : List Value), gSr ad b as st → gWr cA ad ad b sh μ ws →
    Met l (Yf j) (gws j) (rm j) (va_Pc st (gPre D cl cA E nests A b NN XX ws)) (gPost D cl cA A b ad Q) (T j).2.2.2.2.1 (T j).2.2.2.2.2.1 A
theorem gPre.blind {NN : Int} {XX : Int → Int} {st : List Value} {nests : List (String × Nat × MethodName × String)} {ws : va_W} : FrameBlind (va_Pc st (gPre D cl cA E nests A b NN XX ws)) := fun a U g mk h => by
  obtain ⟨h1, h2, h3, h4, h5, Ls, xs, h6, h7⟩ := h
  exact ⟨h1, h2, h3, h4.same rfl, h5, Ls, xs, h6.moved (U := U.calling g mk a) (Vm.Alike.refl U.vm), h7⟩
/-- the walk behind a call of the small machine -/
theorem s_inv {mc' ms' : Nat} {H : Heap} {locs : List Loc} {cells slots : Nat} {ls : Array Slot} {st0 st2 : List Value} {ad : List Nat} {S2 : List GV} {Qa : State → Outcome → State → Prop}
    (h0 : ∀ pc L S sh μ mc ms, P0 pc L S sh μ mc ms → gSP p l e R s m args below meth c Qf D cl cA a0 A b MC MS pc L S sh μ mc ms) (hnl : c.maxLocals = L.length) (hL : gLr ad b L ls) {sh0 : SH} {μ0 : MU} {ws0 : va_W} (hW0 : gWr cA a0 ad b sh0 μ0 ws0) (hS2 : gSr ad b S2 st2) (hSf : va_S A s.heap H locs) (hm : mc' ≤ mc) (hm2 : ms' ≤ ms) (hc1 : cells + mc ≤ MC) (hc2 : slots + ms ≤ MS)
    (hQa : ∀ u v t, Qa u (.returned v) t → gPost D cl cA A b ad (fun r sh' μ' => P0 (pc + 3) L (r.toList ++ S2) sh' μ' (mc - mc') (ms - ms')) #[] u (.returned v) t)
    (hr : va_Run p l e R s m args below meth c H locs cells slots mc' ms' (F0 m pc ls st0) st2 Qa A) : W p l e R s m args below meth c H locs cells slots Qf (F0 m pc ls st0) := by
  refine g_back hr fun v u t H1 L1 hu ht hal hq hL1 => ?_
  obtain ⟨⟨r, sh', μ', ad', ws', v', hv, hvo, hP0, hW1, hP1, hD1⟩, hF⟩ := hQa u v t hq
  cases hv
  rw [ht] at hP1
  have hmo := hW1.2.2.2
  have hW1 := hW1.base (fun k a q => hmo k a (hW0.2.2.2 k a q))
  refine h0 _ _ _ _ _ _ _ hP0 ad' ls _ ws' H1 (locs ++ L1) (cells + mc') (slots + ms') hnl (hL.mono hmo) (hvo.sr (hS2.mono hmo)) hW1 hP1 hD1 ⟨?_, fun q h1 h2 => ?_, fun q hq => ?_⟩ (by omega) (by omega)
  · have := hF.1; rw [hu, ht] at this; exact Nat.le_trans hSf.1 this
  · have := hF.2 q (by rw [hu]; exact Nat.lt_of_lt_of_le h1 hSf.1) h2
    rw [hu, ht] at this
    rw [this]
    exact hSf.2.1 q h1 h2
  · rcases List.mem_append.mp hq with h | h
    · exact hSf.2.2 q h
    · exact hL1 q h
theorem gInv_i {T : Nat → GM} {call : GCall} {x n : Nat} (hs : gInv T call P0 pc L S sh μ mc ms x n) : n ≤ S.length ∧ gWt (S.drop n) ≤ 8 ∧ (T x).2.2.2.2.1 ≤ mc ∧ (T x).2.2.2.2.2.1 ≤ ms ∧ call x (S.take n).reverse sh μ (fun r sh' μ' => P0 (pc + 3) L (r.toList ++ S.drop n) sh' μ' (mc - (T x).2.2.2.2.1) (ms - (T x).2.2.2.2.2.1)) := by
  obtain ⟨h, hs⟩ := gIs_t hs
  simp only [Bool.and_eq_true] at h
  exact ⟨Nat.le_of_ble_eq_true h.1.1.1, Nat.le_of_ble_eq_true h.1.1.2, Nat.le_of_ble_eq_true h.1.2, Nat.le_of_ble_eq_true h.2, hs⟩
theorem s_static {NN : Int} {XX : Int → Int} (hx : p.tables.exec = Jvm.exec) (hb : c.code = cc) {T : Nat → GM} {Yf : Nat → MethodName} {gws : Nat → List Cond} {rm : Nat → Room} {nests : List (String × Nat × MethodName × String)} {call : GCall} (hct : gCt l T Yf gws rm D cl cA E nests A b NN XX call) (hK : gKx D cl cA E nests s) (hA : ∀ q, s.heap.size ≤ q → A q) (hZ : gZc b NN XX A s) (hMC : MC ≤ R.cells) (hMS : MS ≤ R.slots) (hts : ∀ w ∈ Ts, w.before args s = true) (hown : s.vm.findClass own = some m.cls) {idx x n : Nat} {bytes : ByteArray} {ret : Option FieldType} (cw : CallB R s args own idx (Yf x) bytes (T x).2.2.1 ret (gws x) (rm x) (T x).2.2.2.2.1 (T x).2.2.2.2.2.1 n ∧ (Cond.static (Yf x)).before args s = true) (hdg : decode cc pc = .ok (.invokestatic idx, 3)) (h0 : ∀ pc L S sh μ mc ms, P0 pc L S sh μ mc ms → gSP p l e R s m args below meth c Qf D cl cA a0 A b MC MS pc L S sh μ mc ms) (hs : gInv T call P0 pc L S sh μ mc ms x n) : gSP p l e R s m args below meth c Qf D cl cA a0 A b MC MS pc L S sh μ mc ms := by
  intro ad ls st ws H locs cells slots hnl hL hS hW hP hD hSf hc1 hc2
  obtain ⟨hn, hwt, hm, hm2, hcall⟩ := gInv_i hs
  obtain ⟨lv, hlv, hlv2⟩ := id hL
  have hlsz : ls.size = c.maxLocals := by rw [hnl]; exact hlv.1
  have hU : ∀ U : State, U.heap = H → s.WarmedH U.vm → gPre D cl cA E nests A b NN XX ws U := fun U hU hw => ⟨by rw [hU]; exact hP, hD, hK.warm hw, fun q hq => hA q (Nat.le_trans hSf.1 (by rw [← hU]; exact hq)), hZ.at hSf hU hw⟩
  obtain ⟨h1, h2⟩ := hS.take n
  have h3 := h1.rev
  have hst : st = (st.take n).reverse.reverse ++ st.drop n := by rw [List.reverse_reverse, List.take_append_drop]
  have hlen : (st.take n).reverse.length = n := by rw [List.length_reverse, List.length_take, hS.len]; omega
  have hM := hct x _ _ _ _ hcall ad ws _ h3 (hW.base (fun _ _ q => q))
  exact s_inv h0 hnl hL hW h2 hSf hm hm2 hc1 hc2 (fun u v t hq => hq) (va_runS (As := (st.take n).reverse) (rest := st.drop n) ⟨hx, hb, rfl, hown, hts⟩ hM cw ⟨gPre.blind, fun U hU' hw => ⟨rfl, hU U hU' hw⟩⟩ rfl hlen hlsz hst (by rw [h2.wt]; show 2 * 0 + _ ≤ 8; omega) hdg ⟨by omega, by omega⟩)
theorem s_virtual {NN : Int} {XX : Int → Int} (hx : p.tables.exec = Jvm.exec) (hb : c.code = cc) {T : Nat → GM} {Yf : Nat → MethodName} {gws : Nat → List Cond} {rm : Nat → Room} {nests : List (String × Nat × MethodName × String)} {call : GCall} (hct : gCt l T Yf gws rm D cl cA E nests A b NN XX call) (hK : gKx D cl cA E nests s) (hA : ∀ q, s.heap.size ≤ q → A q) (hZ : gZc b NN XX A s) (hMC : MC ≤ R.cells) (hMS : MS ≤ R.slots) (hts : ∀ w ∈ Ts, w.before args s = true) (hown : s.vm.findClass own = some m.cls) {idx x n : Nat} {bytes : ByteArray} {ret : Option FieldType} (cw : CallW R s args own C idx (Yf x) bytes (T x).2.2.1 ret (gws x) (rm x) (T x).2.2.2.2.1 (T x).2.2.2.2.2.1 n) {Tf : u_T} {N : Nat} (hcl : cl[(T x).1]? = some (C, Tf, N)) (hc100 : (T x).1 < 100) (hdg : decode cc pc = .ok (.invokevirtual idx, 3)) (h0 : ∀ pc L S sh μ mc ms, P0 pc L S sh μ mc ms → gSP p l e R s m args below meth c Qf D cl cA a0 A b MC MS pc L S sh μ mc ms) (hs : match S[n]? with
    | some (.inr (.inl a)) => gCel sh a fun c => gIs (Nat.ble 1 (n + 1) && Nat.beq c.1 (T x).1) (gInv T call P0 pc L S sh μ mc ms x (n + 1))
    | _ => False) : gSP p l e R s m args below meth c Qf D cl cA a0 A b MC MS pc L S sh μ mc ms := by
  intro ad ls st ws H locs cells slots hnl hL hS hW hP hD hSf hc1 hc2
  split at hs
  · rename_i r hr
    obtain ⟨k, hk, hs⟩ := gCel_i hs
    obtain ⟨hq, hs⟩ := gIs_t hs
    rw [Bool.and_eq_true] at hq
    have hkx : k.1 = (T x).1 := Nat.eq_of_beq_eq_true hq.2
    obtain ⟨hn, hwt, hm, hm2, hcall⟩ := gInv_i hs
    obtain ⟨lv, hlv, hlv2⟩ := id hL
    have hlsz : ls.size = c.maxLocals := by rw [hnl]; exact hlv.1
    have hU : ∀ U : State, U.heap = H → s.WarmedH U.vm → gPre D cl cA E nests A b NN XX ws U := fun U hU hw => ⟨by rw [hU]; exact hP, hD, hK.warm hw, fun q hq => hA q (Nat.le_trans hSf.1 (by rw [← hU]; exact hq)), hZ.at hSf hU hw⟩
    obtain ⟨h1, h2⟩ := hS.take (n + 1)
    have h3 := h1.rev
    obtain ⟨w, hw, a, ha, rfl⟩ := hS.at hr
    obtain ⟨ec, hec, hce⟩ := hW.at hk ha
    obtain ⟨-, fs, rfl, -, -⟩ := gCe_o hce (by omega)
    rw [hkx] at hec
    have hlst := hS.len
    have htk : st.take (n + 1) = st.take n ++ [.ref a] := by rw [List.take_succ, hw]; rfl
    have hrev : (st.take (n + 1)).reverse = .ref a :: (st.take n).reverse := by rw [htk, List.reverse_append]; rfl
    have hst : st = (st.take n).reverse.reverse ++ .ref a :: st.drop (n + 1) := by
      rw [List.reverse_reverse]
      have := (List.take_append_drop (n + 1) st).symm
      rw [htk, List.append_assoc] at this
      exact this
    have hlen : (st.take n).reverse.length = n := by rw [List.length_reverse, List.length_take, hlst]; omega
    have hM := hct x _ _ _ _ hcall ad ws _ h3 (hW.base (fun _ _ q => q))
    refine s_inv h0 hnl hL hW h2 hSf hm hm2 hc1 hc2 (fun u v t hq => hq) (va_runV (C := C) (b := a) (As := (st.take n).reverse) (rest := st.drop (n + 1)) ⟨hx, hb, rfl, hown, hts⟩ hM cw ⟨gPre.blind, va_recv hK.1 hP hcl hec, fun U hU' hw => ⟨by rw [hrev], hU U hU' hw⟩⟩ rfl hlen hlsz hst (by rw [h2.wt]; show 2 * 0 + _ ≤ 8; omega) hdg ⟨by omega, by omega⟩)
  · exact hs.elim
theorem s_special {NN : Int} {XX : Int → Int} (hx : p.tables.exec = Jvm.exec) (hb : c.code = cc) {T : Nat → GM} {Yf : Nat → MethodName} {gws : Nat → List Cond} {rm : Nat → Room} {nests : List (String × Nat × MethodName × String)} {call : GCall} (hct : gCt l T Yf gws rm D cl cA E nests A b NN XX call) (hK : gKx D cl cA E nests s) (hA : ∀ q, s.heap.size ≤ q → A q) (hZ : gZc b NN XX A s) (hMC : MC ≤ R.cells) (hMS : MS ≤ R.slots) (hts : ∀ w ∈ Ts, w.before args s = true) (hown : s.vm.findClass own = some m.cls) {idx x n : Nat} {bytes : ByteArray} {ret : Option FieldType} (cw : CallB R s args own idx (Yf x) bytes (T x).2.2.1 none (gws x) (rm x) (T x).2.2.2.2.1 (T x).2.2.2.2.2.1 n ∧ (Yf x).name = "<init>" ∧ (Cond.instanceMethod (Yf x)).before args s = true) (hdg : decode cc pc = .ok (.invokespecial idx, 3)) (h0 : ∀ pc L S sh μ mc ms, P0 pc L S sh μ mc ms → gSP p l e R s m args below meth c Qf D cl cA a0 A b MC MS pc L S sh μ mc ms) (hs : match S[n]? with
    | some (.inr (.inl _)) => gIs (Nat.ble 1 (n + 1)) (gInv T call P0 pc L S sh μ mc ms x (n + 1))
    | _ => False) : gSP p l e R s m args below meth c Qf D cl cA a0 A b MC MS pc L S sh μ mc ms := by
  intro ad ls st ws H locs cells slots hnl hL hS hW hP hD hSf hc1 hc2
  split at hs
  · rename_i r hr
    obtain ⟨hq, hs⟩ := gIs_t hs
    obtain ⟨hn, hwt, hm, hm2, hcall⟩ := gInv_i hs
    obtain ⟨lv, hlv, hlv2⟩ := id hL
    have hlsz : ls.size = c.maxLocals := by rw [hnl]; exact hlv.1
    have hU : ∀ U : State, U.heap = H → s.WarmedH U.vm → gPre D cl cA E nests A b NN XX ws U := fun U hU hw => ⟨by rw [hU]; exact hP, hD, hK.warm hw, fun q hq => hA q (Nat.le_trans hSf.1 (by rw [← hU]; exact hq)), hZ.at hSf hU hw⟩
    obtain ⟨h1, h2⟩ := hS.take (n + 1)
    have h3 := h1.rev
    obtain ⟨w, hw, a, ha, rfl⟩ := hS.at hr
    have hlst := hS.len
    have htk : st.take (n + 1) = st.take n ++ [.ref a] := by rw [List.take_succ, hw]; rfl
    have hrev : (st.take (n + 1)).reverse = .ref a :: (st.take n).reverse := by rw [htk, List.reverse_append]; rfl
    have hst : st = (st.take n).reverse.reverse ++ .ref a :: st.drop (n + 1) := by
      rw [List.reverse_reverse]
      have := (List.take_append_drop (n + 1) st).symm
      rw [htk, List.append_assoc] at this
      exact this
    have hlen : (st.take n).reverse.length = n := by rw [List.length_reverse, List.length_take, hlst]; omega
    have hM := hct x _ _ _ _ hcall ad ws _ h3 (hW.base (fun _ _ q => q))
    refine s_inv h0 hnl hL hW h2 hSf hm hm2 hc1 hc2 (fun u v t hq => hq) (va_runI (b := a) (As := (st.take n).reverse) (rest := st.drop (n + 1)) ⟨hx, hb, rfl, hown, hts⟩ hM cw ⟨gPre.blind, fun U hU' hw => ⟨by rw [hrev], hU U hU' hw⟩⟩ rfl hlen hlsz hst (by rw [h2.wt]; show 2 * 0 + _ ≤ 8; omega) hdg ⟨by omega, by omega⟩)
  · exact hs.elim
theorem s_specialN {NN : Int} {XX : Int → Int} (hx : p.tables.exec = Jvm.exec) (hb : c.code = cc) {T : Nat → GM} {Yf : Nat → MethodName} {gws : Nat → List Cond} {rm : Nat → Room} {nests : List (String × Nat × MethodName × String)} {call : GCall} (hct : gCt l T Yf gws rm D cl cA E nests A b NN XX call) (hK : gKx D cl cA E nests s) (hA : ∀ q, s.heap.size ≤ q → A q) (hZ : gZc b NN XX A s) (hMC : MC ≤ R.cells) (hMS : MS ≤ R.slots) (hts : ∀ w ∈ Ts, w.before args s = true) (hown : s.vm.findClass own = some m.cls) {idx x n : Nat} {bytes : ByteArray} {ret : Option FieldType} {host : String} (cw : va_CN R s args own idx (Yf x) host bytes (T x).2.2.1 none (gws x) (rm x) (T x).2.2.2.2.1 (T x).2.2.2.2.2.1 n ∧ (Yf x).name = "<init>" ∧ (Cond.instanceMethod (Yf x)).before args s = true) (hdg : decode cc pc = .ok (.invokespecial idx, 3)) (h0 : ∀ pc L S sh μ mc ms, P0 pc L S sh μ mc ms → gSP p l e R s m args below meth c Qf D cl cA a0 A b MC MS pc L S sh μ mc ms) (hs : match S[n]? with
    | some (.inr (.inl _)) => gIs (Nat.ble 1 (n + 1)) (gInv T call P0 pc L S sh μ mc ms x (n + 1))
    | _ => False) : gSP p l e R s m args below meth c Qf D cl cA a0 A b MC MS pc L S sh μ mc ms := by
  intro ad ls st ws H locs cells slots hnl hL hS hW hP hD hSf hc1 hc2
  split at hs
  · rename_i r hr
    obtain ⟨hq, hs⟩ := gIs_t hs
    obtain ⟨hn, hwt, hm, hm2, hcall⟩ := gInv_i hs
    obtain ⟨lv, hlv, hlv2⟩ := id hL
    have hlsz : ls.size = c.maxLocals := by rw [hnl]; exact hlv.1
    have hU : ∀ U : State, U.heap = H → s.WarmedH U.vm → gPre D cl cA E nests A b NN XX ws U := fun U hU hw => ⟨by rw [hU]; exact hP, hD, hK.warm hw, fun q hq => hA q (Nat.le_trans hSf.1 (by rw [← hU]; exact hq)), hZ.at hSf hU hw⟩
    obtain ⟨h1, h2⟩ := hS.take (n + 1)
    have h3 := h1.rev
    obtain ⟨w, hw, a, ha, rfl⟩ := hS.at hr
    have hlst := hS.len
    have htk : st.take (n + 1) = st.take n ++ [.ref a] := by rw [List.take_succ, hw]; rfl
    have hrev : (st.take (n + 1)).reverse = .ref a :: (st.take n).reverse := by rw [htk, List.reverse_append]; rfl
    have hst : st = (st.take n).reverse.reverse ++ .ref a :: st.drop (n + 1) := by
      rw [List.reverse_reverse]
      have := (List.take_append_drop (n + 1) st).symm
      rw [htk, List.append_assoc] at this
      exact this
    have hlen : (st.take n).reverse.length = n := by rw [List.length_reverse, List.length_take, hlst]; omega
    have hM := hct x _ _ _ _ hcall ad ws _ h3 (hW.base (fun _ _ q => q))
    refine s_inv h0 hnl hL hW h2 hSf hm hm2 hc1 hc2 (fun u v t hq => hq) (va_runIN (b := a) (As := (st.take n).reverse) (rest := st.drop (n + 1)) ⟨hx, hb, rfl, hown, hts⟩ hM cw ⟨gPre.blind, fun U hU' hw => ⟨by rw [hrev], hU U hU' hw⟩⟩ rfl hlen hlsz hst (by rw [h2.wt]; show 2 * 0 + _ ≤ 8; omega) hdg ⟨by omega, by omega⟩)
  · exact hs.elim
theorem s_abs (hx : p.tables.exec = Jvm.exec) (hb : c.code = cc) {idx : Nat} (hown : s.vm.findClass own = some m.cls) (hlink : (Cond.methodLink own idx Lib.Math.abs.name).before args s = true) (hstat : (Cond.static Lib.Math.abs.name).before args s = true) (hini : (Cond.initialized "java/lang/Math").before args s = true) (hcode : (Cond.code Lib.Math.abs.name Lib.Math.abs.code 1 (some .int)).before args s = true) (hMC : MC ≤ R.cells) (hMS : MS ≤ R.slots) (hR1 : 1 ≤ R.frames) (hR2 : 40 ≤ R.locals) (hdg : decode cc pc = .ok (.invokestatic idx, 3)) (h0 : ∀ pc L S sh μ mc ms, P0 pc L S sh μ mc ms → gSP p l e R s m args below meth c Qf D cl cA a0 A b MC MS pc L S sh μ mc ms) (hs : g1 S fun a S' => gIs (Nat.ble (gWt S') 8) (gOk (-a) ∧ P0 (pc + 3) L (gI (gAbs a) :: S') sh μ mc ms)) : gSP p l e R s m args below meth c Qf D cl cA a0 A b MC MS pc L S sh μ mc ms := by
  intro ad ls st ws H locs cells slots hnl hL hS hW hP hD hSf hc1 hc2
  obtain ⟨a, S', rfl, hs⟩ := g1_i hs
  obtain ⟨hwt, okm, hs⟩ := gIs_t hs
  have hwt := Nat.le_of_ble_eq_true hwt
  obtain ⟨st, rfl, ok1, hS⟩ := hS.i1
  obtain ⟨lv, hlv, hlv2⟩ := id hL
  have ok : gOk (gAbs a) := by unfold gAbs; split <;> assumption
  have hv : (if 0 ≤ Int32.ofInt a then Int32.ofInt a else 0 - Int32.ofInt a) = Int32.ofInt (gAbs a) := by
    unfold gAbs
    have h9 : (0 : Int32) ≤ Int32.ofInt a ↔ 0 ≤ a := g_le (a := 0) (by decide) ok1
    by_cases h : 0 ≤ a
    · rw [if_pos (h9.mpr h), if_pos h]
    · rw [if_neg (fun q => h (h9.mp q)), if_neg h, Int32.ofInt_neg, Int32.zero_sub]
  refine va_mabs hx hb (by rw [hnl]; exact hlv.1.symm) hown hlink hstat hini hcode hR1 (by rw [hS.wt]; omega) (by omega) (by omega) hdg ?_
  rw [hv]
  exact h0 _ _ _ _ _ _ _ hs ad ls _ ws H locs cells slots hnl hL (gSr.mk (gVr.mkI ok) hS) hW hP hD hSf hc1 hc2
theorem s_max (hx : p.tables.exec = Jvm.exec) (hb : c.code = cc) {idx : Nat} (hown : s.vm.findClass own = some m.cls) (hlink : (Cond.methodLink own idx Lib.Math.max.name).before args s = true) (hstat : (Cond.static Lib.Math.max.name).before args s = true) (hini : (Cond.initialized "java/lang/Math").before args s = true) (hcode : (Cond.code Lib.Math.max.name Lib.Math.max.code 2 (some .int)).before args s = true) (hMC : MC ≤ R.cells) (hMS : MS ≤ R.slots) (hR1 : 1 ≤ R.frames) (hR2 : 40 ≤ R.locals) (hdg : decode cc pc = .ok (.invokestatic idx, 3)) (h0 : ∀ pc L S sh μ mc ms, P0 pc L S sh μ mc ms → gSP p l e R s m args below meth c Qf D cl cA a0 A b MC MS pc L S sh μ mc ms) (hs : g2 S fun a b S' => gIs (Nat.ble (gWt S') 8) (P0 (pc + 3) L (gI (max a b) :: S') sh μ mc ms)) : gSP p l e R s m args below meth c Qf D cl cA a0 A b MC MS pc L S sh μ mc ms := by
  intro ad ls st ws H locs cells slots hnl hL hS hW hP hD hSf hc1 hc2
  obtain ⟨a, d, S', rfl, hs⟩ := g2_i hs
  obtain ⟨hwt, hs⟩ := gIs_t hs
  have hwt := Nat.le_of_ble_eq_true hwt
  obtain ⟨st, rfl, ok2, hS⟩ := hS.i1
  obtain ⟨st, rfl, ok1, hS⟩ := hS.i1
  obtain ⟨lv, hlv, hlv2⟩ := id hL
  have ok : gOk (max a d) := by
    obtain ⟨h1, h2⟩ := ok1
    obtain ⟨h3, h4⟩ := ok2
    exact ⟨by omega, by omega⟩
  have hv : (if Int32.ofInt a < Int32.ofInt d then Int32.ofInt d else Int32.ofInt a) = Int32.ofInt (max a d) := by
    by_cases h : a < d
    · rw [if_pos ((g_lt ok1 ok2).mpr h)]; congr 1; omega
    · rw [if_neg (fun q => h ((g_lt ok1 ok2).mp q))]; congr 1; omega
  refine va_mmax hx hb (by rw [hnl]; exact hlv.1.symm) hown hlink hstat hini hcode hR1 (by rw [hS.wt]; omega) (by omega) (by omega) hdg ?_
  rw [hv]
  exact h0 _ _ _ _ _ _ _ hs ad ls _ ws H locs cells slots hnl hL (gSr.mk (gVr.mkI ok) hS) hW hP hD hSf hc1 hc2
theorem s_min (hx : p.tables.exec = Jvm.exec) (hb : c.code = cc) {idx : Nat} (hown : s.vm.findClass own = some m.cls) (hlink : (Cond.methodLink own idx Lib.Math.min.name).before args s = true) (hstat : (Cond.static Lib.Math.min.name).before args s = true) (hini : (Cond.initialized "java/lang/Math").before args s = true) (hcode : (Cond.code Lib.Math.min.name Lib.Math.min.code 2 (some .int)).before args s = true) (hMC : MC ≤ R.cells) (hMS : MS ≤ R.slots) (hR1 : 1 ≤ R.frames) (hR2 : 40 ≤ R.locals) (hdg : decode cc pc = .ok (.invokestatic idx, 3)) (h0 : ∀ pc L S sh μ mc ms, P0 pc L S sh μ mc ms → gSP p l e R s m args below meth c Qf D cl cA a0 A b MC MS pc L S sh μ mc ms) (hs : g2 S fun a b S' => gIs (Nat.ble (gWt S') 8) (P0 (pc + 3) L (gI (min a b) :: S') sh μ mc ms)) : gSP p l e R s m args below meth c Qf D cl cA a0 A b MC MS pc L S sh μ mc ms := by
  intro ad ls st ws H locs cells slots hnl hL hS hW hP hD hSf hc1 hc2
  obtain ⟨a, d, S', rfl, hs⟩ := g2_i hs
  obtain ⟨hwt, hs⟩ := gIs_t hs
  have hwt := Nat.le_of_ble_eq_true hwt
  obtain ⟨st, rfl, ok2, hS⟩ := hS.i1
  obtain ⟨st, rfl, ok1, hS⟩ := hS.i1
  obtain ⟨lv, hlv, hlv2⟩ := id hL
  have ok : gOk (min a d) := by
    obtain ⟨h1, h2⟩ := ok1
    obtain ⟨h3, h4⟩ := ok2
    exact ⟨by omega, by omega⟩
  have hv : (if Int32.ofInt d < Int32.ofInt a then Int32.ofInt d else Int32.ofInt a) = Int32.ofInt (min a d) := by
    by_cases h : d < a
    · rw [if_pos ((g_lt ok2 ok1).mpr h)]; congr 1; omega
    · rw [if_neg (fun q => h ((g_lt ok2 ok1).mp q))]; congr 1; omega
  refine va_mmin hx hb (by rw [hnl]; exact hlv.1.symm) hown hlink hstat hini hcode hR1 (by rw [hS.wt]; omega) (by omega) (by omega) hdg ?_
  rw [hv]
  exact h0 _ _ _ _ _ _ _ hs ad ls _ ws H locs cells slots hnl hL (gSr.mk (gVr.mkI ok) hS) hW hP hD hSf hc1 hc2
end GN
