/-! ===== the rows that read and write cells ===== -/
def gTys (cA : Nat → ClassId) (E : String) : List (ClassId × FieldType) := [(cA 0, .int), (cA 1, .boolean), (cA 2, .char), (cA 3, .object E)]
/-- what the tables say of a field: its declarer, its place, its type -/
def gFd (cl : List vw_C) (F : Nat → List Nat) (Ts : List Cond) (x k : Nat) (C : String) (Tf : u_T) (N : Nat) (ty : Nat → FieldType) : Prop :=
  cl[x]? = some (C, Tf, N) ∧ x < 100 ∧ k < N ∧ (∀ w ∈ u_ws C Tf N, w ∈ Ts) ∧ (∀ j, j < N → parseFieldDescriptor (Tf j).2.2.1 = some (ty j)) ∧ (∀ a, a < N → ∀ b, b < N → a ≠ b → (Tf a).2.1 ≠ (Tf b).2.1) ∧ (Tf k).1 = C ∧ ∀ kd, (F x)[k]? = some kd → (match kd with
    | 0 => ty k = .int
    | 1 => ty k = .boolean
    | 2 => (∃ n, ty k = .object n) ∨ ∃ t, ty k = .array t
    | _ => False)
theorem gCe_o {cA : Nat → ClassId} {ad : List Nat} {b : Nat} {c : GC} {r : Int → Int} {e : va_E} (h : gCe cA ad b c r e) (hc : c.1 < 100) : c.2.2.length = c.2.1 ∧ ∃ fs : List Value, e = .inr (c.1, fs) ∧ fs.length = c.2.1 ∧ ∀ (k : Nat) (o : Option GV), c.2.2[k]? = some o → ∃ w, fs[k]? = some w ∧ (match o with
    | none => gVr ad b (gI (r k)) w
    | some v => gTr v = true ∧ gVr ad b v w) := by
  rcases h with h | h | h
  · exact h.2
  · omega
  · omega
theorem gCe_a {cA : Nat → ClassId} {ad : List Nat} {b : Nat} {c : GC} {r : Int → Int} {e : va_E} (h : gCe cA ad b c r e) {t : Nat} (hc : c.1 = 100 + t) (ht : t < 3) : ∃ f : Nat → Int32, e = .inl (cA t, c.2.1, .inl f) ∧ ∀ j : Nat, j < c.2.1 → f j = Int32.ofInt (r j) ∧ gOk (r j) := by
  rcases h with h | h | h
  · omega
  · obtain ⟨-, -, f, h1, h2⟩ := h
    refine ⟨f, ?_, h2⟩
    rw [h1, hc, Nat.add_sub_cancel_left]
  · omega
theorem gCe_q {cA : Nat → ClassId} {ad : List Nat} {b : Nat} {c : GC} {r : Int → Int} {e : va_E} (h : gCe cA ad b c r e) (hc : c.1 = 103) : c.2.2.length = c.2.1 ∧ ∃ f : Nat → Option Nat, e = .inl (cA 3, c.2.1, .inr (.inr (.inr (.inr f)))) ∧ ∀ (j : Nat) (o : Option GV), c.2.2[j]? = some o → (o = some (gN 0) ∧ f j = none) ∨ ∃ k a, o = some (gR k) ∧ ad[k]? = some a ∧ f j = some a := by
  rcases h with h | h | h
  · omega
  · omega
  · exact h.2
theorem gSh_set {sh : SH} {a : Nat} {c : GC} (h : sh[a]? = some c) : sh.set a c = sh := by
  apply List.ext_getElem?
  intro j
  by_cases hj : j = a
  · subst hj; rw [List.getElem?_set_self (List.getElem?_eq_some_iff.mp h).1, h]
  · rw [List.getElem?_set_ne (Ne.symm hj)]
theorem gW_s (μ : MU) (a : Nat) (i v : Int) : gW μ a i v a = fun j => if j = i then v else μ a j := if_pos rfl
theorem gW_o (μ : MU) {a k : Nat} (i v : Int) (h : k ≠ a) : gW μ a i v k = μ k := if_neg h
theorem gW_si (μ : MU) (a : Nat) (i v : Int) : gW μ a i v a i = v := by rw [gW_s]; exact if_pos rfl
theorem gW_sn (μ : MU) (a : Nat) (i v : Int) {j : Int} (h : j ≠ i) : gW μ a i v a j = μ a j := by rw [gW_s]; exact if_neg h
theorem gSel_i {i : Int} {k : GV → Prop} : ∀ {t : List (Option GV)} {j : Int} {n : Nat} {o : Option GV}, gSel i j t k → t[n]? = some o → i = j + n → ∃ v, o = some v ∧ k v
  | [], _, _, _, _, h, _ => by simp at h
  | q :: t, j, 0, o, h, ho, hi => by
    simp at ho; subst ho
    have h1 := h.1 (by simpa using hi)
    cases q with
    | none => exact h1.elim
    | some v => exact ⟨v, rfl, h1⟩
  | q :: t, j, n + 1, o, h, ho, hi => gSel_i (t := t) (j := j + 1) (n := n) h.2 (by simpa using ho) (by omega)
section GH
variable {p : Program} {l : Launch} {e : Env} {R : Room} {s : State} {m : MethodId} {args : Array Value} {below : List Frame} {meth : Method} {c : Code} {Qf : State → Prop}
variable {D : va_G} {cl : List vw_C} {cA : Nat → ClassId} {a0 : List Nat} {A : Nat → Prop} {b MC MS : Nat} {cc : ByteArray}
variable {pc : Nat} {L S : List GV} {sh : SH} {μ : MU} {mc ms : Nat}
variable {P0 : GP} {E own C : String} {Ts : List Cond} {F : Nat → List Nat}
theorem s_get (hx : p.tables.exec = Jvm.exec) (hb : c.code = cc) {idx x : Nat} {y : Int} {Tf : u_T} {N : Nat} {ty : Nat → FieldType} (hts : ∀ w ∈ Ts, w.before args s = true) (hown : s.vm.findClass own = some m.cls) (hK : va_K D cl (gTys cA E) s) (hfd : gFd cl F Ts x y.toNat C Tf N ty) (hy : 0 ≤ y) (hlink : (Cond.fieldLink own idx C (Tf y.toNat).2.1 (Tf y.toNat).2.2.1).before args s = true) (hdg : decode cc pc = .ok (.getfield idx, 3)) (h0 : ∀ pc L S sh μ mc ms, P0 pc L S sh μ mc ms → gSP p l e R s m args below meth c Qf D cl cA a0 A b MC MS pc L S sh μ mc ms) (hs : gGet P0 pc L S sh μ mc ms x y) : gSP p l e R s m args below meth c Qf D cl cA a0 A b MC MS pc L S sh μ mc ms := by
  intro ad ls st ws H locs cells slots hnl hL hS hW hP hD hSf hc1 hc2
  obtain ⟨hcl, hx1, hkN, hin, -, -, hde, -⟩ := hfd
  obtain ⟨a, S', rfl, hs⟩ := gRf_i hs
  obtain ⟨k, hk, hs⟩ := gCel_i hs
  obtain ⟨hkx, hs⟩ := gIs_t hs
  have hkx : k.1 = x := Nat.eq_of_beq_eq_true hkx
  obtain ⟨aa, st, rfl, haa, hS⟩ := hS.r1
  obtain ⟨ec, hec, hce⟩ := hW.at hk haa
  obtain ⟨-, fs, rfl, -, hfs⟩ := gCe_o hce (by omega)
  rw [hkx] at hec
  cases ho : k.2.2[y.toNat]? with
  | none => rw [ho] at hs; exact hs.elim
  | some o =>
    rw [ho] at hs
    obtain ⟨w, hw, hv⟩ := hfs y.toNat o ho
    refine va_get hx hb hts hin hown hK hP a hec hcl y.toNat hkN hlink (by rw [hde]; exact fun _ h => h) hw hdg ?_
    cases o with
    | none =>
      have hv : gVr ad b (gI (μ a (y.toNat : Int))) w := hv
      rw [Int.toNat_of_nonneg hy] at hv
      exact h0 _ _ _ _ _ _ _ hs ad ls _ ws H locs cells slots hnl hL (gSr.mk hv hS) hW hP hD hSf hc1 hc2
    | some v => exact h0 _ _ _ _ _ _ _ hs ad ls _ ws H locs cells slots hnl hL (gSr.mk hv.2 hS) hW hP hD hSf hc1 hc2
theorem s_put1 (hx : p.tables.exec = Jvm.exec) (hb : c.code = cc) {idx x : Nat} {k : Nat} {Tf : u_T} {N : Nat} {ty : Nat → FieldType} {H : Heap} {ws : va_W} {locs : List Loc} {cells slots : Nat} {ls : Array Slot} {st : List Value} {a aa : Nat} {v : Value} {fs : List Value} (hts : ∀ w ∈ Ts, w.before args s = true) (hown : s.vm.findClass own = some m.cls) (hK : va_K D cl (gTys cA E) s) (hfd : gFd cl F Ts x k C Tf N ty) (hlink : (Cond.fieldLink own idx C (Tf k).2.1 (Tf k).2.2.1).before args s = true) (hfin : (Tf k).2.2.2 = false ∨ (Tf k).2.2.2 = true ∧ meth.name = "<init>" ∧ C = own) (hdg : decode cc pc = .ok (.putfield idx, 3)) (hP : va_P D cl ws H) (hD : va_D A ws) (hSf : va_S A s.heap H locs) (hec : ws[a]? = some (aa, .inr (x, fs))) (hn : narrow (ty k) v = v) (hf : fits (ty k) v = true) (hl : k < fs.length)
    (kk : ∀ (H1 : Heap) (locs1 : List Loc), va_P D cl (ws.set a (aa, .inr (x, fs.set k v))) H1 → va_D A (ws.set a (aa, .inr (x, fs.set k v))) → va_S A s.heap H1 locs1 → W p l e R s m args below meth c H1 locs1 cells slots Qf (F0 m (pc + 3) ls st)) : W p l e R s m args below meth c H locs cells slots Qf (F0 m pc ls (v :: .ref aa :: st)) := by
  obtain ⟨hcl, hx1, hkN, hin, hty, hnm, hde, -⟩ := hfd
  rcases hfin with hfin | ⟨hfin, hin2, hCo⟩
  · exact va_put hx hb hts hin ty hty hnm hown hK hP hD hSf a hec hcl k hkN hlink (by rw [hde]; exact fun _ h => h) hfin (hty k hkN) hn hf hl hdg kk
  · exact va_putF hx hb hts hin ty hty hnm hown hK hP hD hSf a hec hcl k hkN hlink (by rw [hde]; exact fun _ h => h) hfin hin2 (by rw [hde, hCo]) (hty k hkN) hn hf hl hdg kk
theorem s_put (hx : p.tables.exec = Jvm.exec) (hb : c.code = cc) {idx x : Nat} {y : Int} {Tf : u_T} {N : Nat} {ty : Nat → FieldType} (hts : ∀ w ∈ Ts, w.before args s = true) (hown : s.vm.findClass own = some m.cls) (hK : va_K D cl (gTys cA E) s) (hfd : gFd cl F Ts x y.toNat C Tf N ty) (hy : 0 ≤ y) (hlink : (Cond.fieldLink own idx C (Tf y.toNat).2.1 (Tf y.toNat).2.2.1).before args s = true) (hfin : (Tf y.toNat).2.2.2 = false ∨ (Tf y.toNat).2.2.2 = true ∧ meth.name = "<init>" ∧ C = own) (hdg : decode cc pc = .ok (.putfield idx, 3)) (h0 : ∀ pc L S sh μ mc ms, P0 pc L S sh μ mc ms → gSP p l e R s m args below meth c Qf D cl cA a0 A b MC MS pc L S sh μ mc ms) (hs : gPut F P0 pc L S sh μ mc ms x y) : gSP p l e R s m args below meth c Qf D cl cA a0 A b MC MS pc L S sh μ mc ms := by
  intro ad ls st ws H locs cells slots hnl hL hS hW hP hD hSf hc1 hc2
  have hx1 : x < 100 := hfd.2.1
  unfold gPut at hs
  split at hs
  · rename_i n a S'
    obtain ⟨k, hk, hs⟩ := gCel_i hs
    obtain ⟨hkx, hs⟩ := gIs_t hs
    have hkx : k.1 = x := Nat.eq_of_beq_eq_true hkx
    obtain ⟨st, rfl, okn, hS⟩ := hS.i1
    obtain ⟨aa, st, rfl, haa, hS⟩ := hS.r1
    obtain ⟨ec, hec, hce⟩ := hW.at hk haa
    obtain ⟨hlen, fs, rfl, hfl, hfs⟩ := gCe_o hce (by omega)
    have key : ∀ kd, k.2.2[y.toNat]? = some none → (F x)[y.toNat]? = some kd → narrow (ty y.toNat) (.int (Int32.ofInt n)) = .int (Int32.ofInt n) → fits (ty y.toNat) (.int (Int32.ofInt n)) = true → P0 (pc + 3) L S' sh (gW μ a y n) mc ms → W p l e R s m args below meth c H locs cells slots Qf (F0 m pc ls (.int (Int32.ofInt n) :: .ref aa :: st)) := by
      intro kd h1 h2 h3 h4 h5
      have hkl : y.toNat < fs.length := by rw [hfl, ← hlen]; exact (List.getElem?_eq_some_iff.mp h1).1
      rw [hkx] at hec
      refine s_put1 hx hb hts hown hK hfd hlink hfin hdg hP hD hSf hec h3 h4 hkl fun H1 locs1 hP1 hD1 hS1 => ?_
      have hW1 := hW.set (μ' := gW μ a y n) (c' := k) (e' := .inr (x, fs.set y.toNat (.int (Int32.ofInt n)))) hk hec (by
        refine Or.inl ⟨by omega, hlen, _, by rw [hkx], by rw [List.length_set]; exact hfl, fun j o ho => ?_⟩
        by_cases hj : j = y.toNat
        · subst hj
          rw [h1] at ho
          cases ho
          refine ⟨_, List.getElem?_set_self hkl, ?_⟩
          show gVr ad b (gI (gW μ a y n a (y.toNat : Int))) _
          rw [Int.toNat_of_nonneg hy, gW_si]
          exact gVr.mkI okn
        · obtain ⟨w, hw, hv⟩ := hfs j o ho
          refine ⟨w, by rw [List.getElem?_set_ne (Ne.symm hj)]; exact hw, ?_⟩
          cases o with
          | none =>
            show gVr ad b (gI (gW μ a y n a (j : Int))) _
            rw [gW_sn _ _ _ _ (by omega)]
            exact hv
          | some v => exact hv) (fun j hj => gW_o μ y n hj)
      rw [gSh_set hk] at hW1
      exact h0 _ _ _ _ _ _ _ h5 ad ls _ _ H1 locs1 cells slots hnl hL hS hW1 hP1 hD1 hS1 hc1 hc2
    have hkd := hfd.2.2.2.2.2.2.2
    split at hs
    · rename_i h1 h2
      have ht := hkd 0 h2
      exact key 0 h1 h2 (by rw [show ty y.toNat = .int from ht]; rfl) (by rw [show ty y.toNat = .int from ht]; rfl) hs
    · rename_i h1 h2
      have ht := hkd 1 h2
      obtain ⟨hn, hs⟩ := hs
      rcases hn with rfl | rfl
      · exact key 1 h1 h2 (by rw [show ty y.toNat = .boolean from ht]; rfl) (by rw [show ty y.toNat = .boolean from ht]; rfl) hs
      · exact key 1 h1 h2 (by rw [show ty y.toNat = .boolean from ht]; rfl) (by rw [show ty y.toNat = .boolean from ht]; rfl) hs
    · exact hs.elim
  · rename_i r a S'
    obtain ⟨k, hk, hs⟩ := gCel_i hs
    obtain ⟨hkx, hs⟩ := gIs_t hs
    have hkx : k.1 = x := Nat.eq_of_beq_eq_true hkx
    obtain ⟨ra, st, rfl, hra, hS⟩ := hS.r1
    obtain ⟨aa, st, rfl, haa, hS⟩ := hS.r1
    obtain ⟨ec, hec, hce⟩ := hW.at hk haa
    obtain ⟨hlen, fs, rfl, hfl, hfs⟩ := gCe_o hce (by omega)
    have hkd := hfd.2.2.2.2.2.2.2
    split at hs
    · rename_i vo h1 h2
      have ht : (∃ n, ty y.toNat = .object n) ∨ ∃ t, ty y.toNat = .array t := hkd 2 h2
      rw [hkx] at hec
      have hkl : y.toNat < fs.length := by rw [hfl, ← hlen]; exact (List.getElem?_eq_some_iff.mp h1).1
      refine s_put1 hx hb hts hown hK hfd hlink hfin hdg hP hD hSf hec (by rcases ht with ⟨n, e1⟩ | ⟨n, e1⟩ <;> rw [e1] <;> rfl) (by rcases ht with ⟨n, e1⟩ | ⟨n, e1⟩ <;> rw [e1] <;> rfl) hkl fun H1 locs1 hP1 hD1 hS1 => ?_
      have hW1 := hW.set (μ' := μ) (c' := (k.1, k.2.1, k.2.2.set y.toNat (some (gR r)))) (e' := .inr (x, fs.set y.toNat (.ref ra))) hk hec (by
        refine Or.inl ⟨by show k.1 < 100; omega, by rw [List.length_set]; exact hlen, _, by rw [hkx], by rw [List.length_set]; exact hfl, fun j o ho => ?_⟩
        by_cases hj : j = y.toNat
        · subst hj
          rw [List.getElem?_set_self (by rw [hlen, ← hfl]; exact hkl)] at ho
          cases ho
          exact ⟨_, List.getElem?_set_self hkl, rfl, gVr.mkR hra⟩
        · rw [List.getElem?_set_ne (Ne.symm hj)] at ho
          obtain ⟨w, hw, hv⟩ := hfs j o ho
          exact ⟨w, by rw [List.getElem?_set_ne (Ne.symm hj)]; exact hw, hv⟩) (fun j hj => rfl)
      exact h0 _ _ _ _ _ _ _ hs ad ls _ _ H1 locs1 cells slots hnl hL hS hW1 hP1 hD1 hS1 hc1 hc2
    · exact hs.elim
  · exact hs.elim
theorem s_iaload (hx : p.tables.exec = Jvm.exec) (hb : c.code = cc) (hK : va_K D cl (gTys cA E) s) {u : Bool} {NN : Int} {XX : Int → Int} (hscr : u = true → ∃ (Ls : Nat) (xs : Nat → Int32), va_X b Ls xs s s.heap ∧ b < s.heap.size ∧ ¬ A b ∧ NN = Ls ∧ Ls < 2147483648 ∧ ∀ j : Nat, j < Ls → xs j = Int32.ofInt (XX j) ∧ gOk (XX j)) (hdg : decode cc pc = .ok (.iaload, 1)) (h0 : ∀ pc L S sh μ mc ms, P0 pc L S sh μ mc ms → gSP p l e R s m args below meth c Qf D cl cA a0 A b MC MS pc L S sh μ mc ms) (hs : gAld 100 NN XX u P0 pc L S sh μ mc ms) : gSP p l e R s m args below meth c Qf D cl cA a0 A b MC MS pc L S sh μ mc ms := by
  intro ad ls st ws H locs cells slots hnl hL hS hW hP hD hSf hc1 hc2
  unfold gAld at hs
  split at hs
  · rename_i i a S'
    obtain ⟨k, hk, hs⟩ := gCel_i hs
    obtain ⟨hkx, ⟨hi0, hi1⟩, hs⟩ := gIs_t hs
    have hkx : k.1 = 100 + 0 := Nat.eq_of_beq_eq_true hkx
    obtain ⟨st, rfl, oki, hS⟩ := hS.i1
    obtain ⟨aa, st, rfl, haa, hS⟩ := hS.r1
    obtain ⟨ec, hec, hce⟩ := hW.at hk haa
    obtain ⟨f, rfl, hf⟩ := gCe_a hce hkx (by decide)
    have hi2 : i.toNat < k.2.1 := by omega
    obtain ⟨hf1, hf2⟩ := hf i.toNat hi2
    rw [Int.toNat_of_nonneg hi0] at hf1 hf2
    refine va_iald hx hb hK hP a 0 hec rfl (g_in oki hi0 hi1) hdg ?_
    rw [g_cl oki, hf1]
    exact h0 _ _ _ _ _ _ _ hs ad ls _ ws H locs cells slots hnl hL (gSr.mk (gVr.mkI hf2) hS) hW hP hD hSf hc1 hc2
  · rename_i i S'
    obtain ⟨hu, ⟨hi0, hi1⟩, hs⟩ := gIs_t hs
    rw [Bool.and_eq_true] at hu
    obtain ⟨Ls, xs, hX, hbs, hbA, hN, hLs, hxs⟩ := hscr hu.1
    rw [hN] at hi1
    obtain ⟨st, rfl, oki, hS⟩ := hS.i1
    obtain ⟨w, st, rfl, hw, hS⟩ := hS.c1
    rw [show w = .ref b from hw]
    have hi2 : i.toNat < Ls := by omega
    obtain ⟨hf1, hf2⟩ := hxs i.toNat hi2
    rw [Int.toNat_of_nonneg hi0] at hf1 hf2
    refine va_sld hx hb hX hbs hbA hSf (g_in oki hi0 hi1) hdg ?_
    rw [g_cl oki, hf1]
    exact h0 _ _ _ _ _ _ _ hs ad ls _ ws H locs cells slots hnl hL (gSr.mk (gVr.mkI hf2) hS) hW hP hD hSf hc1 hc2
  · exact hs.elim
theorem s_iastore (hx : p.tables.exec = Jvm.exec) (hb : c.code = cc) (hK : va_K D cl (gTys cA E) s) (hdg : decode cc pc = .ok (.iastore, 1)) (h0 : ∀ pc L S sh μ mc ms, P0 pc L S sh μ mc ms → gSP p l e R s m args below meth c Qf D cl cA a0 A b MC MS pc L S sh μ mc ms) (hs : gAst 100 P0 pc L S sh μ mc ms) : gSP p l e R s m args below meth c Qf D cl cA a0 A b MC MS pc L S sh μ mc ms := by
  intro ad ls st ws H locs cells slots hnl hL hS hW hP hD hSf hc1 hc2
  unfold gAst at hs
  split at hs
  · rename_i v i a S'
    obtain ⟨k, hk, hs⟩ := gCel_i hs
    obtain ⟨hkx, ⟨hi0, hi1⟩, hs⟩ := gIs_t hs
    have hkx : k.1 = 100 + 0 := Nat.eq_of_beq_eq_true hkx
    obtain ⟨st, rfl, okv, hS⟩ := hS.i1
    obtain ⟨st, rfl, oki, hS⟩ := hS.i1
    obtain ⟨aa, st, rfl, haa, hS⟩ := hS.r1
    obtain ⟨ec, hec, hce⟩ := hW.at hk haa
    obtain ⟨f, rfl, hf⟩ := gCe_a hce hkx (by decide)
    have hv : Int32.ofInt v = Int32.ofInt v := rfl
    have hs : P0 (pc + 1) L S' sh (gW μ a i v) mc ms := hs
    refine va_iast hx hb hK hP hD hSf a 0 hec rfl (g_in oki hi0 hi1) hdg fun H1 locs1 hP1 hD1 hS1 => ?_
    have hW1 := hW.set (μ' := gW μ a i v) (c' := k) (e' := .inl (cA 0, k.2.1, .inl (upd f (Int32.ofInt i).toNatClampNeg (Int32.ofInt v)))) hk hec (by
      refine Or.inr (Or.inl ⟨by omega, by omega, _, by rw [hkx, Nat.add_sub_cancel_left], fun j hj => ?_⟩)
      rw [g_cl oki]
      by_cases hji : j = i.toNat
      · subst hji
        rw [pk_us, Int.toNat_of_nonneg hi0, gW_si]
        exact ⟨rfl, okv⟩
      · rw [pk_un hji, gW_sn _ _ _ _ (by omega)]
        exact hf j hj) (fun j hj => gW_o μ i v hj)
    rw [gSh_set hk] at hW1
    exact h0 _ _ _ _ _ _ _ hs ad ls _ _ H1 locs1 cells slots hnl hL hS hW1 hP1 hD1 hS1 hc1 hc2
  · exact hs.elim
theorem s_baload (hx : p.tables.exec = Jvm.exec) (hb : c.code = cc) (hK : va_K D cl (gTys cA E) s) {u : Bool} {NN : Int} {XX : Int → Int} (hscr : u = true → ∃ (Ls : Nat) (xs : Nat → Int32), va_X b Ls xs s s.heap ∧ b < s.heap.size ∧ ¬ A b ∧ NN = Ls ∧ Ls < 2147483648 ∧ ∀ j : Nat, j < Ls → xs j = Int32.ofInt (XX j) ∧ gOk (XX j)) (hdg : decode cc pc = .ok (.baload, 1)) (h0 : ∀ pc L S sh μ mc ms, P0 pc L S sh μ mc ms → gSP p l e R s m args below meth c Qf D cl cA a0 A b MC MS pc L S sh μ mc ms) (hs : gAld 101 NN XX u P0 pc L S sh μ mc ms) : gSP p l e R s m args below meth c Qf D cl cA a0 A b MC MS pc L S sh μ mc ms := by
  intro ad ls st ws H locs cells slots hnl hL hS hW hP hD hSf hc1 hc2
  unfold gAld at hs
  split at hs
  · rename_i i a S'
    obtain ⟨k, hk, hs⟩ := gCel_i hs
    obtain ⟨hkx, ⟨hi0, hi1⟩, hs⟩ := gIs_t hs
    have hkx : k.1 = 100 + 1 := Nat.eq_of_beq_eq_true hkx
    obtain ⟨st, rfl, oki, hS⟩ := hS.i1
    obtain ⟨aa, st, rfl, haa, hS⟩ := hS.r1
    obtain ⟨ec, hec, hce⟩ := hW.at hk haa
    obtain ⟨f, rfl, hf⟩ := gCe_a hce hkx (by decide)
    have hi2 : i.toNat < k.2.1 := by omega
    obtain ⟨hf1, hf2⟩ := hf i.toNat hi2
    rw [Int.toNat_of_nonneg hi0] at hf1 hf2
    refine va_zald hx hb hK hP a 1 hec rfl (g_in oki hi0 hi1) hdg ?_
    rw [g_cl oki, hf1]
    exact h0 _ _ _ _ _ _ _ hs ad ls _ ws H locs cells slots hnl hL (gSr.mk (gVr.mkI hf2) hS) hW hP hD hSf hc1 hc2
  · obtain ⟨hu, -⟩ := gIs_t hs
    rw [Bool.and_eq_true] at hu
    exact absurd hu.2 (by decide)
  · exact hs.elim
theorem s_bastore (hx : p.tables.exec = Jvm.exec) (hb : c.code = cc) (hK : va_K D cl (gTys cA E) s) (hdg : decode cc pc = .ok (.bastore, 1)) (h0 : ∀ pc L S sh μ mc ms, P0 pc L S sh μ mc ms → gSP p l e R s m args below meth c Qf D cl cA a0 A b MC MS pc L S sh μ mc ms) (hs : gAst 101 P0 pc L S sh μ mc ms) : gSP p l e R s m args below meth c Qf D cl cA a0 A b MC MS pc L S sh μ mc ms := by
  intro ad ls st ws H locs cells slots hnl hL hS hW hP hD hSf hc1 hc2
  unfold gAst at hs
  split at hs
  · rename_i v i a S'
    obtain ⟨k, hk, hs⟩ := gCel_i hs
    obtain ⟨hkx, ⟨hi0, hi1⟩, hs⟩ := gIs_t hs
    have hkx : k.1 = 100 + 1 := Nat.eq_of_beq_eq_true hkx
    obtain ⟨st, rfl, okv, hS⟩ := hS.i1
    obtain ⟨st, rfl, oki, hS⟩ := hS.i1
    obtain ⟨aa, st, rfl, haa, hS⟩ := hS.r1
    obtain ⟨ec, hec, hce⟩ := hW.at hk haa
    obtain ⟨f, rfl, hf⟩ := gCe_a hce hkx (by decide)
    have hv : vp_nar .boolean (Int32.ofInt v) = Int32.ofInt v := by
      rcases hs.1 with rfl | rfl <;> rfl
    have hs : P0 (pc + 1) L S' sh (gW μ a i v) mc ms := hs.2
    refine va_zast hx hb hK hP hD hSf a 1 hec rfl (g_in oki hi0 hi1) hdg fun H1 locs1 hP1 hD1 hS1 => ?_
    rw [hv] at hP1 hD1
    have hW1 := hW.set (μ' := gW μ a i v) (c' := k) (e' := .inl (cA 1, k.2.1, .inl (upd f (Int32.ofInt i).toNatClampNeg (Int32.ofInt v)))) hk hec (by
      refine Or.inr (Or.inl ⟨by omega, by omega, _, by rw [hkx, Nat.add_sub_cancel_left], fun j hj => ?_⟩)
      rw [g_cl oki]
      by_cases hji : j = i.toNat
      · subst hji
        rw [pk_us, Int.toNat_of_nonneg hi0, gW_si]
        exact ⟨rfl, okv⟩
      · rw [pk_un hji, gW_sn _ _ _ _ (by omega)]
        exact hf j hj) (fun j hj => gW_o μ i v hj)
    rw [gSh_set hk] at hW1
    exact h0 _ _ _ _ _ _ _ hs ad ls _ _ H1 locs1 cells slots hnl hL hS hW1 hP1 hD1 hS1 hc1 hc2
  · exact hs.elim
theorem s_caload (hx : p.tables.exec = Jvm.exec) (hb : c.code = cc) (hK : va_K D cl (gTys cA E) s) {u : Bool} {NN : Int} {XX : Int → Int} (hscr : u = true → ∃ (Ls : Nat) (xs : Nat → Int32), va_X b Ls xs s s.heap ∧ b < s.heap.size ∧ ¬ A b ∧ NN = Ls ∧ Ls < 2147483648 ∧ ∀ j : Nat, j < Ls → xs j = Int32.ofInt (XX j) ∧ gOk (XX j)) (hdg : decode cc pc = .ok (.caload, 1)) (h0 : ∀ pc L S sh μ mc ms, P0 pc L S sh μ mc ms → gSP p l e R s m args below meth c Qf D cl cA a0 A b MC MS pc L S sh μ mc ms) (hs : gAld 102 NN XX u P0 pc L S sh μ mc ms) : gSP p l e R s m args below meth c Qf D cl cA a0 A b MC MS pc L S sh μ mc ms := by
  intro ad ls st ws H locs cells slots hnl hL hS hW hP hD hSf hc1 hc2
  unfold gAld at hs
  split at hs
  · rename_i i a S'
    obtain ⟨k, hk, hs⟩ := gCel_i hs
    obtain ⟨hkx, ⟨hi0, hi1⟩, hs⟩ := gIs_t hs
    have hkx : k.1 = 100 + 2 := Nat.eq_of_beq_eq_true hkx
    obtain ⟨st, rfl, oki, hS⟩ := hS.i1
    obtain ⟨aa, st, rfl, haa, hS⟩ := hS.r1
    obtain ⟨ec, hec, hce⟩ := hW.at hk haa
    obtain ⟨f, rfl, hf⟩ := gCe_a hce hkx (by decide)
    have hi2 : i.toNat < k.2.1 := by omega
    obtain ⟨hf1, hf2⟩ := hf i.toNat hi2
    rw [Int.toNat_of_nonneg hi0] at hf1 hf2
    refine va_cald hx hb hK hP a 2 hec rfl (g_in oki hi0 hi1) hdg ?_
    rw [g_cl oki, hf1]
    exact h0 _ _ _ _ _ _ _ hs ad ls _ ws H locs cells slots hnl hL (gSr.mk (gVr.mkI hf2) hS) hW hP hD hSf hc1 hc2
  · obtain ⟨hu, -⟩ := gIs_t hs
    rw [Bool.and_eq_true] at hu
    exact absurd hu.2 (by decide)
  · exact hs.elim
theorem s_castore (hx : p.tables.exec = Jvm.exec) (hb : c.code = cc) (hK : va_K D cl (gTys cA E) s) (hdg : decode cc pc = .ok (.castore, 1)) (h0 : ∀ pc L S sh μ mc ms, P0 pc L S sh μ mc ms → gSP p l e R s m args below meth c Qf D cl cA a0 A b MC MS pc L S sh μ mc ms) (hs : gAst 102 P0 pc L S sh μ mc ms) : gSP p l e R s m args below meth c Qf D cl cA a0 A b MC MS pc L S sh μ mc ms := by
  intro ad ls st ws H locs cells slots hnl hL hS hW hP hD hSf hc1 hc2
  unfold gAst at hs
  split at hs
  · rename_i v i a S'
    obtain ⟨k, hk, hs⟩ := gCel_i hs
    obtain ⟨hkx, ⟨hi0, hi1⟩, hs⟩ := gIs_t hs
    have hkx : k.1 = 100 + 2 := Nat.eq_of_beq_eq_true hkx
    obtain ⟨st, rfl, okv, hS⟩ := hS.i1
    obtain ⟨st, rfl, oki, hS⟩ := hS.i1
    obtain ⟨aa, st, rfl, haa, hS⟩ := hS.r1
    obtain ⟨ec, hec, hce⟩ := hW.at hk haa
    obtain ⟨f, rfl, hf⟩ := gCe_a hce hkx (by decide)
    have hv : vp_nar .char (Int32.ofInt v) = Int32.ofInt v := by
      obtain ⟨n, rfl⟩ := Int.eq_ofNat_of_zero_le hs.1.1
      have hq := hs.1.2
      rw [Int32.ofInt_eq_ofNat]
      have h2 := (pk_charN (q := n) (by omega)).1
      show vp_nar .char (nI n) = nI n
      unfold vp_nar
      rw [h2]
    have hs : P0 (pc + 1) L S' sh (gW μ a i v) mc ms := hs.2
    refine va_cast hx hb hK hP hD hSf a 2 hec rfl (g_in oki hi0 hi1) hdg fun H1 locs1 hP1 hD1 hS1 => ?_
    rw [hv] at hP1 hD1
    have hW1 := hW.set (μ' := gW μ a i v) (c' := k) (e' := .inl (cA 2, k.2.1, .inl (upd f (Int32.ofInt i).toNatClampNeg (Int32.ofInt v)))) hk hec (by
      refine Or.inr (Or.inl ⟨by omega, by omega, _, by rw [hkx, Nat.add_sub_cancel_left], fun j hj => ?_⟩)
      rw [g_cl oki]
      by_cases hji : j = i.toNat
      · subst hji
        rw [pk_us, Int.toNat_of_nonneg hi0, gW_si]
        exact ⟨rfl, okv⟩
      · rw [pk_un hji, gW_sn _ _ _ _ (by omega)]
        exact hf j hj) (fun j hj => gW_o μ i v hj)
    rw [gSh_set hk] at hW1
    exact h0 _ _ _ _ _ _ _ hs ad ls _ _ H1 locs1 cells slots hnl hL hS hW1 hP1 hD1 hS1 hc1 hc2
  · exact hs.elim
theorem s_alen (hx : p.tables.exec = Jvm.exec) (hb : c.code = cc) (hK : va_K D cl (gTys cA E) s) {u : Bool} {NN : Int} {XX : Int → Int} (hscr : u = true → ∃ (Ls : Nat) (xs : Nat → Int32), va_X b Ls xs s s.heap ∧ b < s.heap.size ∧ ¬ A b ∧ NN = Ls ∧ Ls < 2147483648 ∧ ∀ j : Nat, j < Ls → xs j = Int32.ofInt (XX j) ∧ gOk (XX j)) (hdg : decode cc pc = .ok (.arraylength, 1)) (h0 : ∀ pc L S sh μ mc ms, P0 pc L S sh μ mc ms → gSP p l e R s m args below meth c Qf D cl cA a0 A b MC MS pc L S sh μ mc ms) (hs : match S with
    | .inr (.inl a) :: S' => gCel sh a fun c => gIs (Nat.ble 100 c.1 && Nat.ble c.1 102 && Nat.blt c.2.1 2147483648) (P0 (pc + 1) L (gI c.2.1 :: S') sh μ mc ms)
    | .inr (.inr (.inr 1)) :: S' => gIs u (P0 (pc + 1) L (gI NN :: S') sh μ mc ms)
    | _ => False) : gSP p l e R s m args below meth c Qf D cl cA a0 A b MC MS pc L S sh μ mc ms := by
  intro ad ls st ws H locs cells slots hnl hL hS hW hP hD hSf hc1 hc2
  split at hs
  · rename_i a S'
    obtain ⟨k, hk, hs⟩ := gCel_i hs
    obtain ⟨hkx, hs⟩ := gIs_t hs
    rw [Bool.and_eq_true, Bool.and_eq_true] at hkx
    obtain ⟨⟨h1, h2⟩, h3⟩ := hkx
    have h1 := Nat.le_of_ble_eq_true h1
    have h2 := Nat.le_of_ble_eq_true h2
    have h3 : k.2.1 < 2147483648 := Nat.le_of_ble_eq_true h3
    obtain ⟨aa, st, rfl, haa, hS⟩ := hS.r1
    obtain ⟨ec, hec, hce⟩ := hW.at hk haa
    obtain ⟨t, ht, hkt⟩ : ∃ t, t < 3 ∧ k.1 = 100 + t := ⟨k.1 - 100, by omega, by omega⟩
    obtain ⟨f, rfl, hf⟩ := gCe_a hce hkt ht
    have hv : Int32.ofNat k.2.1 = Int32.ofInt (k.2.1 : Int) := Int32.ofInt_eq_ofNat.symm
    have fin : ∀ ty, (gTys cA E)[t]? = some (cA t, ty) → W p l e R s m args below meth c H locs cells slots Qf (F0 m pc ls (.ref aa :: st)) := fun ty hty =>
      va_alen hx hb hK hP a t hec hty hv hdg (h0 _ _ _ _ _ _ _ hs ad ls _ ws H locs cells slots hnl hL (gSr.mk (gVr.mkI ⟨by omega, by omega⟩) hS) hW hP hD hSf hc1 hc2)
    rcases (show t = 0 ∨ t = 1 ∨ t = 2 by omega) with rfl | rfl | rfl
    · exact fin .int rfl
    · exact fin .boolean rfl
    · exact fin .char rfl
  · rename_i S'
    obtain ⟨hu, hs⟩ := gIs_t hs
    obtain ⟨Ls, xs, hX, hbs, hbA, hN, hLs, hxs⟩ := hscr hu
    obtain ⟨w, st, rfl, hw, hS⟩ := hS.c1
    rw [show w = .ref b from hw]
    refine va_slen hx hb hX hbs hbA hSf hdg ?_
    rw [← Int32.ofInt_eq_ofNat, ← hN]
    exact h0 _ _ _ _ _ _ _ hs ad ls _ ws H locs cells slots hnl hL (gSr.mk (gVr.mkI (by rw [hN]; exact ⟨by omega, by omega⟩)) hS) hW hP hD hSf hc1 hc2
  · exact hs.elim
theorem s_aaload (hx : p.tables.exec = Jvm.exec) (hb : c.code = cc) (hK : va_K D cl (gTys cA E) s) (hdg : decode cc pc = .ok (.aaload, 1)) (h0 : ∀ pc L S sh μ mc ms, P0 pc L S sh μ mc ms → gSP p l e R s m args below meth c Qf D cl cA a0 A b MC MS pc L S sh μ mc ms) (hs : match S with
    | .inl i :: .inr (.inl a) :: S' => gCel sh a fun c => gIs (Nat.beq c.1 103 && Nat.beq c.2.1 c.2.2.length) ((0 ≤ i ∧ i < c.2.1) ∧ gSel i 0 c.2.2 fun v => P0 (pc + 1) L (v :: S') sh μ mc ms)
    | _ => False) : gSP p l e R s m args below meth c Qf D cl cA a0 A b MC MS pc L S sh μ mc ms := by
  intro ad ls st ws H locs cells slots hnl hL hS hW hP hD hSf hc1 hc2
  split at hs
  · rename_i i a S'
    obtain ⟨k, hk, hs⟩ := gCel_i hs
    obtain ⟨hkx, ⟨hi0, hi1⟩, hs⟩ := gIs_t hs
    rw [Bool.and_eq_true] at hkx
    have hkx : k.1 = 103 := Nat.eq_of_beq_eq_true hkx.1
    obtain ⟨st, rfl, oki, hS⟩ := hS.i1
    obtain ⟨aa, st, rfl, haa, hS⟩ := hS.r1
    obtain ⟨ec, hec, hce⟩ := hW.at hk haa
    obtain ⟨hlen, f, rfl, hf⟩ := gCe_q hce hkx
    have hi2 : i.toNat < k.2.2.length := by omega
    have hg : k.2.2[i.toNat]? = some k.2.2[i.toNat] := List.getElem?_eq_getElem hi2
    obtain ⟨v, hv, hs⟩ := gSel_i hs hg (by omega)
    refine va_aldq hx hb hK hP a 3 hec rfl (g_in oki hi0 hi1) hdg ?_
    rw [g_cl oki]
    rcases hf _ _ hg with ⟨h1, h2⟩ | ⟨r, ra, h1, h2, h3⟩
    · rw [h2]
      rw [h1] at hv
      cases hv
      exact h0 _ _ _ _ _ _ _ hs ad ls _ ws H locs cells slots hnl hL (gSr.mk gVr.mkN hS) hW hP hD hSf hc1 hc2
    · rw [h3]
      rw [h1] at hv
      cases hv
      exact h0 _ _ _ _ _ _ _ hs ad ls _ ws H locs cells slots hnl hL (gSr.mk (gVr.mkR h2) hS) hW hP hD hSf hc1 hc2
  · exact hs.elim
theorem s_aastore (hx : p.tables.exec = Jvm.exec) (hb : c.code = cc) (hK : va_K D cl (gTys cA E) s) {x : Nat} {Tf : u_T} {N : Nat} (hcl : cl[x]? = some (E, Tf, N)) (hx1 : x < 100) (hdg : decode cc pc = .ok (.aastore, 1)) (h0 : ∀ pc L S sh μ mc ms, P0 pc L S sh μ mc ms → gSP p l e R s m args below meth c Qf D cl cA a0 A b MC MS pc L S sh μ mc ms) (hs : match S with
    | .inr (.inl r) :: .inl i :: .inr (.inl a) :: S' => gCel sh a fun c => gCel sh r fun c' => gIs (Nat.beq c.1 103 && Nat.beq c'.1 x) ((0 ≤ i ∧ i < c.2.1) ∧ P0 (pc + 1) L S' (sh.set a (c.1, c.2.1, c.2.2.set i.toNat (some (gR r)))) μ mc ms)
    | _ => False) : gSP p l e R s m args below meth c Qf D cl cA a0 A b MC MS pc L S sh μ mc ms := by
  intro ad ls st ws H locs cells slots hnl hL hS hW hP hD hSf hc1 hc2
  split at hs
  · rename_i r i a S'
    obtain ⟨k, hk, hs⟩ := gCel_i hs
    obtain ⟨k', hk', hs⟩ := gCel_i hs
    obtain ⟨hkx, ⟨hi0, hi1⟩, hs⟩ := gIs_t hs
    rw [Bool.and_eq_true] at hkx
    have hkx' : k'.1 = x := Nat.eq_of_beq_eq_true hkx.2
    have hkx : k.1 = 103 := Nat.eq_of_beq_eq_true hkx.1
    obtain ⟨ra, st, rfl, hra, hS⟩ := hS.r1
    obtain ⟨st, rfl, oki, hS⟩ := hS.i1
    obtain ⟨aa, st, rfl, haa, hS⟩ := hS.r1
    obtain ⟨ec, hec, hce⟩ := hW.at hk haa
    obtain ⟨ec', hec', hce'⟩ := hW.at hk' hra
    obtain ⟨hlen, f, rfl, hf⟩ := gCe_q hce hkx
    obtain ⟨-, fs, rfl, -, -⟩ := gCe_o hce' (by omega)
    rw [hkx'] at hec'
    refine va_astq hx hb hK hP hD hSf a 3 r x (r := (E, Tf, N)) hec rfl hec' hcl (g_in oki hi0 hi1) hdg fun H1 locs1 hP1 hD1 hS1 => ?_
    have hW1 := hW.set (μ' := μ) (c' := (k.1, k.2.1, k.2.2.set i.toNat (some (gR r)))) (e' := .inl (cA 3, k.2.1, .inr (.inr (.inr (.inr (va_up f (Int32.ofInt i).toNatClampNeg (some ra))))))) hk hec (by
      refine Or.inr (Or.inr ⟨hkx, by rw [List.length_set]; exact hlen, _, rfl, fun j o ho => ?_⟩)
      rw [g_cl oki]
      by_cases hji : j = i.toNat
      · subst hji
        rw [List.getElem?_set_self (by omega)] at ho
        cases ho
        exact Or.inr ⟨r, ra, rfl, hra, if_pos rfl⟩
      · rw [List.getElem?_set_ne (Ne.symm hji)] at ho
        have h9 : va_up f i.toNat (some ra) j = f j := if_neg hji
        rw [h9]
        exact hf j o ho) (fun j hj => rfl)
    exact h0 _ _ _ _ _ _ _ hs ad ls _ _ H1 locs1 cells slots hnl hL hS hW1 hP1 hD1 hS1 hc1 hc2
  · exact hs.elim
end GH
