/-! ===== one step of the small machine is one row of the kit: locals, numbers, branches ===== -/
theorem gLd_0 {o : Option GV} {k : GV → Prop} (h : gLd 0 o k) : ∃ a, o = some (gI a) ∧ k (gI a) := by
  unfold gLd at h
  split at h
  · exact ⟨_, rfl, h⟩
  · rename_i q; exact absurd q (by decide)
  · rename_i q; exact absurd q (by decide)
  · rename_i q; exact absurd q (by decide)
  · rename_i q; exact absurd q (by decide)
  · exact h.elim
theorem gLd_1 {o : Option GV} {k : GV → Prop} (h : gLd 1 o k) : ∃ v, o = some v ∧ gTr v = true ∧ k v := by
  unfold gLd at h
  split at h
  · rename_i q; exact absurd q (by decide)
  · exact ⟨_, rfl, rfl, h⟩
  · exact ⟨_, rfl, rfl, h⟩
  · exact ⟨_, rfl, rfl, h⟩
  · rename_i q; exact absurd q (by decide)
  · exact h.elim
theorem gLd_2 {o : Option GV} {k : GV → Prop} (h : gLd 2 o k) : ∃ a, o = some (gL a) ∧ k (gL a) := by
  unfold gLd at h
  split at h
  · rename_i q; exact absurd q (by decide)
  · rename_i q; exact absurd q (by decide)
  · rename_i q; exact absurd q (by decide)
  · rename_i q; exact absurd q (by decide)
  · exact ⟨_, rfl, h⟩
  · exact h.elim
theorem gTr_of {ad : List Nat} {b : Nat} {v : GV} {w : Value} (ht : gTr v = true) (h : gVr ad b v w) : w = .null ∨ ∃ a, w = .ref a := by
  rcases v with n | k | n | k
  · cases ht
  · obtain ⟨a, -, rfl⟩ := h; exact Or.inr ⟨a, rfl⟩
  · cases ht
  · match k, h with
    | 0, h => exact Or.inl h
    | 1, h => exact Or.inr ⟨b, h⟩
theorem gTr_hv {v : GV} (ht : gTr v = true) : gHv v = true := by
  rcases v with n | k | n | k
  · cases ht
  · rfl
  · cases ht
  · exact ht
theorem g1_i {S : List GV} {k : Int → List GV → Prop} (h : g1 S k) : ∃ a S', S = gI a :: S' ∧ k a S' := by
  unfold g1 at h
  split at h
  · exact ⟨_, _, rfl, h⟩
  · exact h.elim
theorem g2_i {S : List GV} {k : Int → Int → List GV → Prop} (h : g2 S k) : ∃ a b S', S = gI b :: gI a :: S' ∧ k a b S' := by
  unfold g2 at h
  split at h
  · exact ⟨_, _, _, rfl, h⟩
  · exact h.elim
theorem gLl_i {S : List GV} {k : Int → Int → List GV → Prop} (h : gLl S k) : ∃ a b S', S = gL b :: gL a :: S' ∧ k a b S' := by
  unfold gLl at h
  split at h
  · exact ⟨_, _, _, rfl, h⟩
  · exact h.elim
theorem gRf_i {S : List GV} {k : Nat → List GV → Prop} (h : gRf S k) : ∃ a S', S = gR a :: S' ∧ k a S' := by
  unfold gRf at h
  split at h
  · exact ⟨_, _, rfl, h⟩
  · exact h.elim
theorem gCel_i {sh : SH} {a : Nat} {k : GC → Prop} (h : gCel sh a k) : ∃ c, sh[a]? = some c ∧ k c := by
  unfold gCel at h
  split at h
  · exact ⟨_, by assumption, h⟩
  · exact h.elim
theorem gSr.c1 {ad : List Nat} {b : Nat} {v : GV} {S : List GV} {st : List Value} (h : gSr ad b (v :: S) st) : ∃ w st', st = w :: st' ∧ gVr ad b v w ∧ gSr ad b S st' := by
  cases st with
  | nil => exact h.elim
  | cons w st' => exact ⟨w, st', rfl, h.1, h.2⟩
theorem gSr.i1 {ad : List Nat} {b : Nat} {n : Int} {S : List GV} {st : List Value} (h : gSr ad b (gI n :: S) st) : ∃ st', st = .int (Int32.ofInt n) :: st' ∧ gOk n ∧ gSr ad b S st' := by
  obtain ⟨w, st', rfl, ⟨rfl, h2⟩, h3⟩ := h.c1
  exact ⟨st', rfl, h2, h3⟩
theorem gSr.r1 {ad : List Nat} {b k : Nat} {S : List GV} {st : List Value} (h : gSr ad b (gR k :: S) st) : ∃ a st', st = .ref a :: st' ∧ ad[k]? = some a ∧ gSr ad b S st' := by
  obtain ⟨w, st', rfl, ⟨a, h1, rfl⟩, h3⟩ := h.c1
  exact ⟨a, st', rfl, h1, h3⟩
theorem gSr.l1 {ad : List Nat} {b : Nat} {n : Int} {S : List GV} {st : List Value} (h : gSr ad b (gL n :: S) st) : ∃ st', st = .long (Int64.ofInt n) :: st' ∧ gSr ad b S st' := by
  obtain ⟨w, st', rfl, h2, h3⟩ := h.c1
  exact ⟨st', by rw [show w = .long (Int64.ofInt n) from h2], h3⟩
theorem gSr.nil {ad : List Nat} {b : Nat} {st : List Value} (h : gSr ad b [] st) : st = [] := by
  cases st with
  | nil => rfl
  | cons w st' => exact h.elim
section GS
variable {p : Program} {l : Launch} {e : Env} {R : Room} {s : State} {m : MethodId} {args : Array Value} {below : List Frame} {meth : Method} {c : Code} {Qf : State → Prop}
variable {D : va_G} {cl : List vw_C} {cA : Nat → ClassId} {a0 : List Nat} {tys : List (ClassId × FieldType)} {A : Nat → Prop} {b MC MS : Nat} {cc : ByteArray}
def gSP (p : Program) (l : Launch) (e : Env) (R : Room) (s : State) (m : MethodId) (args : Array Value) (below : List Frame) (meth : Method) (c : Code) (Qf : State → Prop) (D : va_G) (cl : List vw_C) (cA : Nat → ClassId) (a0 : List Nat) (A : Nat → Prop) (b MC MS : Nat) : GP := fun pc L S sh μ mc ms =>
  ∀ (ad : List Nat) (ls : Array Slot) (st : List Value) (ws : va_W) (H : Heap) (locs : List Loc) (cells slots : Nat), c.maxLocals = L.length → gLr ad b L ls → gSr ad b S st → gWr cA a0 ad b sh μ ws → va_P D cl ws H → va_D A ws → va_S A s.heap H locs → cells + mc ≤ MC → slots + ms ≤ MS →
    W p l e R s m args below meth c H locs cells slots Qf (F0 m pc ls st)
variable {pc : Nat} {L S : List GV} {sh : SH} {μ : MU} {mc ms : Nat}
variable {P0 : GP}
theorem s_iload_n (hx : p.tables.exec = Jvm.exec) (hb : c.code = cc) {k : Fin 4} (hdg : decode cc pc = .ok (.iload_n k, 1)) (h0 : ∀ pc L S sh μ mc ms, P0 pc L S sh μ mc ms → gSP p l e R s m args below meth c Qf D cl cA a0 A b MC MS pc L S sh μ mc ms) (hs : gLd 0 L[(k : Nat)]? fun v => P0 (pc + 1) L (v :: S) sh μ mc ms) : gSP p l e R s m args below meth c Qf D cl cA a0 A b MC MS pc L S sh μ mc ms := by
  intro ad ls st ws H locs cells slots hnl hL hS hW hP hD hSf hc1 hc2
  obtain ⟨a, ha, hk⟩ := gLd_0 hs
  obtain ⟨w, hw, rfl, ok⟩ := hL.get ha rfl
  exact lv_iload_n hx hb hdg rfl hw (h0 _ _ _ _ _ _ _ hk ad ls _ ws H locs cells slots hnl hL (gSr.mk (gVr.mkI (ok)) hS) hW hP hD hSf hc1 hc2)
theorem s_iload (hx : p.tables.exec = Jvm.exec) (hb : c.code = cc) {k : Nat} (hdg : decode cc pc = .ok (.iload k, 2)) (h0 : ∀ pc L S sh μ mc ms, P0 pc L S sh μ mc ms → gSP p l e R s m args below meth c Qf D cl cA a0 A b MC MS pc L S sh μ mc ms) (hs : gLd 0 L[k]? fun v => P0 (pc + 2) L (v :: S) sh μ mc ms) : gSP p l e R s m args below meth c Qf D cl cA a0 A b MC MS pc L S sh μ mc ms := by
  intro ad ls st ws H locs cells slots hnl hL hS hW hP hD hSf hc1 hc2
  obtain ⟨a, ha, hk⟩ := gLd_0 hs
  obtain ⟨w, hw, rfl, ok⟩ := hL.get ha rfl
  exact lv_iload hx hb hdg hw (h0 _ _ _ _ _ _ _ hk ad ls _ ws H locs cells slots hnl hL (gSr.mk (gVr.mkI (ok)) hS) hW hP hD hSf hc1 hc2)
theorem s_lload_n (hx : p.tables.exec = Jvm.exec) (hb : c.code = cc) {k : Fin 4} (hdg : decode cc pc = .ok (.lload_n k, 1)) (h0 : ∀ pc L S sh μ mc ms, P0 pc L S sh μ mc ms → gSP p l e R s m args below meth c Qf D cl cA a0 A b MC MS pc L S sh μ mc ms) (hs : gLd 2 L[(k : Nat)]? fun v => P0 (pc + 1) L (v :: S) sh μ mc ms) : gSP p l e R s m args below meth c Qf D cl cA a0 A b MC MS pc L S sh μ mc ms := by
  intro ad ls st ws H locs cells slots hnl hL hS hW hP hD hSf hc1 hc2
  obtain ⟨a, ha, hk⟩ := gLd_2 hs
  obtain ⟨w, hw, hr⟩ := hL.get ha rfl
  rw [show w = .long (Int64.ofInt a) from hr] at hw
  exact lv_lload_n hx hb hdg rfl hw (h0 _ _ _ _ _ _ _ hk ad ls _ ws H locs cells slots hnl hL (gSr.mk gVr.mkL hS) hW hP hD hSf hc1 hc2)
theorem s_lload (hx : p.tables.exec = Jvm.exec) (hb : c.code = cc) {k : Nat} (hdg : decode cc pc = .ok (.lload k, 2)) (h0 : ∀ pc L S sh μ mc ms, P0 pc L S sh μ mc ms → gSP p l e R s m args below meth c Qf D cl cA a0 A b MC MS pc L S sh μ mc ms) (hs : gLd 2 L[k]? fun v => P0 (pc + 2) L (v :: S) sh μ mc ms) : gSP p l e R s m args below meth c Qf D cl cA a0 A b MC MS pc L S sh μ mc ms := by
  intro ad ls st ws H locs cells slots hnl hL hS hW hP hD hSf hc1 hc2
  obtain ⟨a, ha, hk⟩ := gLd_2 hs
  obtain ⟨w, hw, hr⟩ := hL.get ha rfl
  rw [show w = .long (Int64.ofInt a) from hr] at hw
  exact lv_lload hx hb hdg hw (h0 _ _ _ _ _ _ _ hk ad ls _ ws H locs cells slots hnl hL (gSr.mk gVr.mkL hS) hW hP hD hSf hc1 hc2)
theorem s_aload_n (hx : p.tables.exec = Jvm.exec) (hb : c.code = cc) {k : Fin 4} (hdg : decode cc pc = .ok (.aload_n k, 1)) (h0 : ∀ pc L S sh μ mc ms, P0 pc L S sh μ mc ms → gSP p l e R s m args below meth c Qf D cl cA a0 A b MC MS pc L S sh μ mc ms) (hs : gLd 1 L[(k : Nat)]? fun v => P0 (pc + 1) L (v :: S) sh μ mc ms) : gSP p l e R s m args below meth c Qf D cl cA a0 A b MC MS pc L S sh μ mc ms := by
  intro ad ls st ws H locs cells slots hnl hL hS hW hP hD hSf hc1 hc2
  obtain ⟨v, ha, ht, hk⟩ := gLd_1 hs
  obtain ⟨w, hw, hr⟩ := hL.get ha (gTr_hv ht)
  rcases gTr_of ht hr with rfl | ⟨a, rfl⟩
  · exact lv_aload_nN hx hb hdg rfl hw (h0 _ _ _ _ _ _ _ hk ad ls _ ws H locs cells slots hnl hL ⟨hr, hS⟩ hW hP hD hSf hc1 hc2)
  · exact lv_aload_n hx hb hdg rfl hw (h0 _ _ _ _ _ _ _ hk ad ls _ ws H locs cells slots hnl hL ⟨hr, hS⟩ hW hP hD hSf hc1 hc2)
theorem s_aload (hx : p.tables.exec = Jvm.exec) (hb : c.code = cc) {k : Nat} (hdg : decode cc pc = .ok (.aload k, 2)) (h0 : ∀ pc L S sh μ mc ms, P0 pc L S sh μ mc ms → gSP p l e R s m args below meth c Qf D cl cA a0 A b MC MS pc L S sh μ mc ms) (hs : gLd 1 L[k]? fun v => P0 (pc + 2) L (v :: S) sh μ mc ms) : gSP p l e R s m args below meth c Qf D cl cA a0 A b MC MS pc L S sh μ mc ms := by
  intro ad ls st ws H locs cells slots hnl hL hS hW hP hD hSf hc1 hc2
  obtain ⟨v, ha, ht, hk⟩ := gLd_1 hs
  obtain ⟨w, hw, hr⟩ := hL.get ha (gTr_hv ht)
  rcases gTr_of ht hr with rfl | ⟨a, rfl⟩
  · exact lv_aloadN hx hb hdg hw (h0 _ _ _ _ _ _ _ hk ad ls _ ws H locs cells slots hnl hL ⟨hr, hS⟩ hW hP hD hSf hc1 hc2)
  · exact lv_aload hx hb hdg hw (h0 _ _ _ _ _ _ _ hk ad ls _ ws H locs cells slots hnl hL ⟨hr, hS⟩ hW hP hD hSf hc1 hc2)
theorem gSt_i {L : List GV} {i : Nat} {v : GV} {k : List GV → Prop} (h : gSt L i v k) : i < L.length ∧ gNoL L i = true ∧ k (L.set i v) := by
  obtain ⟨h1, h2⟩ := gIs_t h
  rw [Bool.and_eq_true] at h1
  exact ⟨Nat.le_of_ble_eq_true h1.1, h1.2, h2⟩
theorem gSt2_i {L : List GV} {i : Nat} {v : GV} {k : List GV → Prop} (h : gSt2 L i v k) : i + 1 < L.length ∧ gNoL L i = true ∧ k ((L.set i v).set (i + 1) (gN 2)) := by
  obtain ⟨h1, h2⟩ := gIs_t h
  rw [Bool.and_eq_true] at h1
  exact ⟨Nat.le_of_ble_eq_true h1.1, h1.2, h2⟩
theorem s_istore_n (hx : p.tables.exec = Jvm.exec) (hb : c.code = cc) {k : Fin 4} (hdg : decode cc pc = .ok (.istore_n k, 1)) (h0 : ∀ pc L S sh μ mc ms, P0 pc L S sh μ mc ms → gSP p l e R s m args below meth c Qf D cl cA a0 A b MC MS pc L S sh μ mc ms) (hs : g1 S fun a S' => gSt L k (gI a) fun L' => P0 (pc + 1) L' S' sh μ mc ms) : gSP p l e R s m args below meth c Qf D cl cA a0 A b MC MS pc L S sh μ mc ms := by
  intro ad ls st ws H locs cells slots hnl hL hS hW hP hD hSf hc1 hc2
  obtain ⟨a, S', rfl, hs1⟩ := g1_i hs
  obtain ⟨hi, hn, hk⟩ := gSt_i hs1
  obtain ⟨st, rfl, ok, hS1⟩ := hS.i1
  obtain ⟨lv, hl, hlv⟩ := hL
  exact lv_istore_n hx hb hdg rfl hl hi rfl fun ls' hl' => h0 _ _ _ _ _ _ _ hk ad ls' _ ws H locs cells slots (by rw [List.length_set]; exact hnl) (hlv.set hi hn (gVr.mkI ok) hl') hS1 hW hP hD hSf hc1 hc2
theorem s_istore (hx : p.tables.exec = Jvm.exec) (hb : c.code = cc) {k : Nat} (hdg : decode cc pc = .ok (.istore k, 2)) (h0 : ∀ pc L S sh μ mc ms, P0 pc L S sh μ mc ms → gSP p l e R s m args below meth c Qf D cl cA a0 A b MC MS pc L S sh μ mc ms) (hs : g1 S fun a S' => gSt L k (gI a) fun L' => P0 (pc + 2) L' S' sh μ mc ms) : gSP p l e R s m args below meth c Qf D cl cA a0 A b MC MS pc L S sh μ mc ms := by
  intro ad ls st ws H locs cells slots hnl hL hS hW hP hD hSf hc1 hc2
  obtain ⟨a, S', rfl, hs1⟩ := g1_i hs
  obtain ⟨hi, hn, hk⟩ := gSt_i hs1
  obtain ⟨st, rfl, ok, hS1⟩ := hS.i1
  obtain ⟨lv, hl, hlv⟩ := hL
  exact lv_istore hx hb hdg hl hi rfl fun ls' hl' => h0 _ _ _ _ _ _ _ hk ad ls' _ ws H locs cells slots (by rw [List.length_set]; exact hnl) (hlv.set hi hn (gVr.mkI ok) hl') hS1 hW hP hD hSf hc1 hc2
theorem s_astore_n (hx : p.tables.exec = Jvm.exec) (hb : c.code = cc) {k : Fin 4} (hdg : decode cc pc = .ok (.astore_n k, 1)) (h0 : ∀ pc L S sh μ mc ms, P0 pc L S sh μ mc ms → gSP p l e R s m args below meth c Qf D cl cA a0 A b MC MS pc L S sh μ mc ms) {v : GV} (hs : gIs (gTr v) (gSt L k v fun L' => P0 (pc + 1) L' S sh μ mc ms)) : gSP p l e R s m args below meth c Qf D cl cA a0 A b MC MS pc L (v :: S) sh μ mc ms := by
  intro ad ls st ws H locs cells slots hnl hL hS hW hP hD hSf hc1 hc2
  obtain ⟨ht, hs1⟩ := gIs_t hs
  obtain ⟨hi, hn, hk⟩ := gSt_i hs1
  obtain ⟨w, st, rfl, hr, hS1⟩ := hS.c1
  obtain ⟨lv, hl, hlv⟩ := hL
  rcases gTr_of ht hr with rfl | ⟨a, rfl⟩
  · exact lv_astore_nN hx hb hdg rfl hl hi rfl fun ls' hl' => h0 _ _ _ _ _ _ _ hk ad ls' _ ws H locs cells slots (by rw [List.length_set]; exact hnl) (hlv.set hi hn hr hl') hS1 hW hP hD hSf hc1 hc2
  · exact lv_astore_n hx hb hdg rfl hl hi rfl fun ls' hl' => h0 _ _ _ _ _ _ _ hk ad ls' _ ws H locs cells slots (by rw [List.length_set]; exact hnl) (hlv.set hi hn hr hl') hS1 hW hP hD hSf hc1 hc2
theorem s_lstore_n (hx : p.tables.exec = Jvm.exec) (hb : c.code = cc) {k : Fin 4} (hdg : decode cc pc = .ok (.lstore_n k, 1)) (h0 : ∀ pc L S sh μ mc ms, P0 pc L S sh μ mc ms → gSP p l e R s m args below meth c Qf D cl cA a0 A b MC MS pc L S sh μ mc ms) {n : Int} (hs : gSt2 L k (gL n) fun L' => P0 (pc + 1) L' S sh μ mc ms) : gSP p l e R s m args below meth c Qf D cl cA a0 A b MC MS pc L (gL n :: S) sh μ mc ms := by
  intro ad ls st ws H locs cells slots hnl hL hS hW hP hD hSf hc1 hc2
  obtain ⟨hi, hn, hk⟩ := gSt2_i hs
  obtain ⟨st, rfl, hS1⟩ := hS.l1
  obtain ⟨lv, hl, hlv⟩ := hL
  exact lv_lstore_n hx hb hdg rfl hl hi rfl fun ls' hl' => h0 _ _ _ _ _ _ _ hk ad ls' _ ws H locs cells slots (by rw [List.length_set, List.length_set]; exact hnl) (hlv.set2 hi hn (show gVr ad b (gL n) (.long (Int64.ofInt n)) from rfl) hl') hS1 hW hP hD hSf hc1 hc2
theorem s_lstore (hx : p.tables.exec = Jvm.exec) (hb : c.code = cc) {k : Nat} (hdg : decode cc pc = .ok (.lstore k, 2)) (h0 : ∀ pc L S sh μ mc ms, P0 pc L S sh μ mc ms → gSP p l e R s m args below meth c Qf D cl cA a0 A b MC MS pc L S sh μ mc ms) {n : Int} (hs : gSt2 L k (gL n) fun L' => P0 (pc + 2) L' S sh μ mc ms) : gSP p l e R s m args below meth c Qf D cl cA a0 A b MC MS pc L (gL n :: S) sh μ mc ms := by
  intro ad ls st ws H locs cells slots hnl hL hS hW hP hD hSf hc1 hc2
  obtain ⟨hi, hn, hk⟩ := gSt2_i hs
  obtain ⟨st, rfl, hS1⟩ := hS.l1
  obtain ⟨lv, hl, hlv⟩ := hL
  exact lv_lstore hx hb hdg hl hi rfl fun ls' hl' => h0 _ _ _ _ _ _ _ hk ad ls' _ ws H locs cells slots (by rw [List.length_set, List.length_set]; exact hnl) (hlv.set2 hi hn (show gVr ad b (gL n) (.long (Int64.ofInt n)) from rfl) hl') hS1 hW hP hD hSf hc1 hc2
theorem s_iinc (hx : p.tables.exec = Jvm.exec) (hb : c.code = cc) {k : Nat} {n a : Int} (hdg : decode cc pc = .ok (.iinc k n, 3)) (h0 : ∀ pc L S sh μ mc ms, P0 pc L S sh μ mc ms → gSP p l e R s m args below meth c Qf D cl cA a0 A b MC MS pc L S sh μ mc ms) (ha : L[k]? = some (gI a)) (hs : gOk (a + n) ∧ gSt L k (gI (a + n)) fun L' => P0 (pc + 3) L' S sh μ mc ms) : gSP p l e R s m args below meth c Qf D cl cA a0 A b MC MS pc L S sh μ mc ms := by
  intro ad ls st ws H locs cells slots hnl hL hS hW hP hD hSf hc1 hc2
  obtain ⟨ok, hs⟩ := hs
  obtain ⟨hi, hn, hk⟩ := gSt_i hs
  obtain ⟨lv, hl, hlv⟩ := hL
  obtain ⟨w, hw, rfl, oka⟩ := hlv k (gI a) ha rfl
  obtain ⟨j, hj⟩ := List.getElem?_of_mem hw
  exact lv_iinc hx hb hdg hl hj (Int32.ofInt_add a n).symm hi rfl fun ls' hl' => h0 _ _ _ _ _ _ _ hk ad ls' _ ws H locs cells slots (by rw [List.length_set]; exact hnl) (hlv.set hi hn (gVr.mkI ok) hl') hS hW hP hD hSf hc1 hc2
theorem s_iconst (hx : p.tables.exec = Jvm.exec) (hb : c.code = cc) {n : Int} (hdg : decode cc pc = .ok (.iconst n, 1)) (h0 : ∀ pc L S sh μ mc ms, P0 pc L S sh μ mc ms → gSP p l e R s m args below meth c Qf D cl cA a0 A b MC MS pc L S sh μ mc ms) (ok : gOk n) (hk : P0 (pc + 1) L (gI n :: S) sh μ mc ms) : gSP p l e R s m args below meth c Qf D cl cA a0 A b MC MS pc L S sh μ mc ms := by
  intro ad ls st ws H locs cells slots hnl hL hS hW hP hD hSf hc1 hc2
  exact lv_iconst hx hb hdg rfl (h0 _ _ _ _ _ _ _ hk ad ls _ ws H locs cells slots hnl hL (gSr.mk (gVr.mkI (ok)) hS) hW hP hD hSf hc1 hc2)
theorem s_bipush (hx : p.tables.exec = Jvm.exec) (hb : c.code = cc) {n : Int} (hdg : decode cc pc = .ok (.bipush n, 2)) (h0 : ∀ pc L S sh μ mc ms, P0 pc L S sh μ mc ms → gSP p l e R s m args below meth c Qf D cl cA a0 A b MC MS pc L S sh μ mc ms) (h1 : -128 ≤ n) (h2 : n < 128) (hk : P0 (pc + 2) L (gI n :: S) sh μ mc ms) : gSP p l e R s m args below meth c Qf D cl cA a0 A b MC MS pc L S sh μ mc ms := by
  intro ad ls st ws H locs cells slots hnl hL hS hW hP hD hSf hc1 hc2
  have ok : gOk n := ⟨by omega, by omega⟩
  refine lv_bipush (v := Int32.ofInt n) hx hb hdg ?_ (h0 _ _ _ _ _ _ _ hk ad ls _ ws H locs cells slots hnl hL (gSr.mk (gVr.mkI (ok)) hS) hW hP hD hSf hc1 hc2)
  rw [← Int32.toInt_inj, g_toInt ok, Int8.toInt_toInt32, Int8.toInt_ofInt_of_le (by omega) (by omega)]
theorem s_sipush (hx : p.tables.exec = Jvm.exec) (hb : c.code = cc) {n : Int} (hdg : decode cc pc = .ok (.sipush n, 3)) (h0 : ∀ pc L S sh μ mc ms, P0 pc L S sh μ mc ms → gSP p l e R s m args below meth c Qf D cl cA a0 A b MC MS pc L S sh μ mc ms) (h1 : -32768 ≤ n) (h2 : n < 32768) (hk : P0 (pc + 3) L (gI n :: S) sh μ mc ms) : gSP p l e R s m args below meth c Qf D cl cA a0 A b MC MS pc L S sh μ mc ms := by
  intro ad ls st ws H locs cells slots hnl hL hS hW hP hD hSf hc1 hc2
  have ok : gOk n := ⟨by omega, by omega⟩
  refine lv_sipush (v := Int32.ofInt n) hx hb hdg ?_ (h0 _ _ _ _ _ _ _ hk ad ls _ ws H locs cells slots hnl hL (gSr.mk (gVr.mkI (ok)) hS) hW hP hD hSf hc1 hc2)
  rw [← Int32.toInt_inj, g_toInt ok, Int16.toInt_toInt32, Int16.toInt_ofInt_of_le (by omega) (by omega)]
theorem s_ldc (hx : p.tables.exec = Jvm.exec) (hb : c.code = cc) {own : String} {k : Nat} {n : Int} (hown : s.vm.findClass own = some m.cls) (hw : (Jvm.Cond.constant own k (Int32.ofInt n)).before args s = true) (hdg : decode cc pc = .ok (.ldc k, 2)) (h0 : ∀ pc L S sh μ mc ms, P0 pc L S sh μ mc ms → gSP p l e R s m args below meth c Qf D cl cA a0 A b MC MS pc L S sh μ mc ms) (ok : gOk n) (hk : P0 (pc + 2) L (gI n :: S) sh μ mc ms) : gSP p l e R s m args below meth c Qf D cl cA a0 A b MC MS pc L S sh μ mc ms := by
  intro ad ls st ws H locs cells slots hnl hL hS hW hP hD hSf hc1 hc2
  exact lv_ldc hx hb hown hw hdg (h0 _ _ _ _ _ _ _ hk ad ls _ ws H locs cells slots hnl hL (gSr.mk (gVr.mkI (ok)) hS) hW hP hD hSf hc1 hc2)
theorem s_ldc2 (hx : p.tables.exec = Jvm.exec) (hb : c.code = cc) {own : String} {k : Nat} {n : Int} (hown : s.vm.findClass own = some m.cls) (hw : (Jvm.Cond.constantLong own k (Int64.ofInt n)).before args s = true) (hdg : decode cc pc = .ok (.ldc2_w k, 3)) (h0 : ∀ pc L S sh μ mc ms, P0 pc L S sh μ mc ms → gSP p l e R s m args below meth c Qf D cl cA a0 A b MC MS pc L S sh μ mc ms) (hk : P0 (pc + 3) L (gL n :: S) sh μ mc ms) : gSP p l e R s m args below meth c Qf D cl cA a0 A b MC MS pc L S sh μ mc ms := by
  intro ad ls st ws H locs cells slots hnl hL hS hW hP hD hSf hc1 hc2
  exact lv_ldc2 hx hb hown hw hdg (h0 _ _ _ _ _ _ _ hk ad ls _ ws H locs cells slots hnl hL (gSr.mk gVr.mkL hS) hW hP hD hSf hc1 hc2)
theorem s_null (hx : p.tables.exec = Jvm.exec) (hb : c.code = cc) (hdg : decode cc pc = .ok (.aconst_null, 1)) (h0 : ∀ pc L S sh μ mc ms, P0 pc L S sh μ mc ms → gSP p l e R s m args below meth c Qf D cl cA a0 A b MC MS pc L S sh μ mc ms) (hk : P0 (pc + 1) L (gN 0 :: S) sh μ mc ms) : gSP p l e R s m args below meth c Qf D cl cA a0 A b MC MS pc L S sh μ mc ms := by
  intro ad ls st ws H locs cells slots hnl hL hS hW hP hD hSf hc1 hc2
  exact lv_null hx hb hdg (h0 _ _ _ _ _ _ _ hk ad ls _ ws H locs cells slots hnl hL (gSr.mk gVr.mkN hS) hW hP hD hSf hc1 hc2)
theorem s_dup (hx : p.tables.exec = Jvm.exec) (hb : c.code = cc) (hdg : decode cc pc = .ok (.dup, 1)) (h0 : ∀ pc L S sh μ mc ms, P0 pc L S sh μ mc ms → gSP p l e R s m args below meth c Qf D cl cA a0 A b MC MS pc L S sh μ mc ms) {v : GV} (hs : gIs (gC1 v) (P0 (pc + 1) L (v :: v :: S) sh μ mc ms)) : gSP p l e R s m args below meth c Qf D cl cA a0 A b MC MS pc L (v :: S) sh μ mc ms := by
  intro ad ls st ws H locs cells slots hnl hL hS hW hP hD hSf hc1 hc2
  obtain ⟨ht, hk⟩ := gIs_t hs
  obtain ⟨w, st, rfl, hr, hS1⟩ := hS.c1
  exact lv_dup hx hb hdg (hr.cat ht) (h0 _ _ _ _ _ _ _ hk ad ls _ ws H locs cells slots hnl hL ⟨hr, hr, hS1⟩ hW hP hD hSf hc1 hc2)
theorem s_dup2 (hx : p.tables.exec = Jvm.exec) (hb : c.code = cc) (hdg : decode cc pc = .ok (.dup2, 1)) (h0 : ∀ pc L S sh μ mc ms, P0 pc L S sh μ mc ms → gSP p l e R s m args below meth c Qf D cl cA a0 A b MC MS pc L S sh μ mc ms) {v u : GV} (hs : gIs (gC1 v && gC1 u) (P0 (pc + 1) L (v :: u :: v :: u :: S) sh μ mc ms)) : gSP p l e R s m args below meth c Qf D cl cA a0 A b MC MS pc L (v :: u :: S) sh μ mc ms := by
  intro ad ls st ws H locs cells slots hnl hL hS hW hP hD hSf hc1 hc2
  obtain ⟨ht, hk⟩ := gIs_t hs
  rw [Bool.and_eq_true] at ht
  obtain ⟨w, st, rfl, hr, hS1⟩ := hS.c1
  obtain ⟨w2, st, rfl, hr2, hS2⟩ := hS1.c1
  exact lv_dup2_11 hx hb hdg (hr.cat ht.1) (hr2.cat ht.2) (h0 _ _ _ _ _ _ _ hk ad ls _ ws H locs cells slots hnl hL ⟨hr, hr2, hr, hr2, hS2⟩ hW hP hD hSf hc1 hc2)
theorem s_pop (hx : p.tables.exec = Jvm.exec) (hb : c.code = cc) (hdg : decode cc pc = .ok (.pop, 1)) (h0 : ∀ pc L S sh μ mc ms, P0 pc L S sh μ mc ms → gSP p l e R s m args below meth c Qf D cl cA a0 A b MC MS pc L S sh μ mc ms) {v : GV} (hs : gIs (gC1 v) (P0 (pc + 1) L S sh μ mc ms)) : gSP p l e R s m args below meth c Qf D cl cA a0 A b MC MS pc L (v :: S) sh μ mc ms := by
  intro ad ls st ws H locs cells slots hnl hL hS hW hP hD hSf hc1 hc2
  obtain ⟨ht, hk⟩ := gIs_t hs
  obtain ⟨w, st, rfl, hr, hS1⟩ := hS.c1
  exact lv_pop hx hb hdg (hr.cat ht) (h0 _ _ _ _ _ _ _ hk ad ls _ ws H locs cells slots hnl hL hS1 hW hP hD hSf hc1 hc2)
theorem s_iadd (hx : p.tables.exec = Jvm.exec) (hb : c.code = cc) (hdg : decode cc pc = .ok (.iadd, 1)) (h0 : ∀ pc L S sh μ mc ms, P0 pc L S sh μ mc ms → gSP p l e R s m args below meth c Qf D cl cA a0 A b MC MS pc L S sh μ mc ms) (hs : g2 S fun a b S' => gOk (a + b) ∧ P0 (pc + 1) L (gI (a + b) :: S') sh μ mc ms) : gSP p l e R s m args below meth c Qf D cl cA a0 A b MC MS pc L S sh μ mc ms := by
  intro ad ls st ws H locs cells slots hnl hL hS hW hP hD hSf hc1 hc2
  obtain ⟨a, d, S', rfl, ok, hk⟩ := g2_i hs
  obtain ⟨st, rfl, ok1, hS1⟩ := hS.i1
  obtain ⟨st, rfl, ok2, hS2⟩ := hS1.i1
  have q := (h0 _ _ _ _ _ _ _ hk ad ls _ ws H locs cells slots hnl hL (gSr.mk (gVr.mkI (ok)) hS2) hW hP hD hSf hc1 hc2)
  rw [Int32.ofInt_add] at q
  exact lv_iadd hx hb hdg q
theorem s_isub (hx : p.tables.exec = Jvm.exec) (hb : c.code = cc) (hdg : decode cc pc = .ok (.isub, 1)) (h0 : ∀ pc L S sh μ mc ms, P0 pc L S sh μ mc ms → gSP p l e R s m args below meth c Qf D cl cA a0 A b MC MS pc L S sh μ mc ms) (hs : g2 S fun a b S' => gOk (a - b) ∧ P0 (pc + 1) L (gI (a - b) :: S') sh μ mc ms) : gSP p l e R s m args below meth c Qf D cl cA a0 A b MC MS pc L S sh μ mc ms := by
  intro ad ls st ws H locs cells slots hnl hL hS hW hP hD hSf hc1 hc2
  obtain ⟨a, d, S', rfl, ok, hk⟩ := g2_i hs
  obtain ⟨st, rfl, ok1, hS1⟩ := hS.i1
  obtain ⟨st, rfl, ok2, hS2⟩ := hS1.i1
  have q := (h0 _ _ _ _ _ _ _ hk ad ls _ ws H locs cells slots hnl hL (gSr.mk (gVr.mkI (ok)) hS2) hW hP hD hSf hc1 hc2)
  rw [Int32.ofInt_sub] at q
  exact lv_isub hx hb hdg q
theorem s_imul (hx : p.tables.exec = Jvm.exec) (hb : c.code = cc) (hdg : decode cc pc = .ok (.imul, 1)) (h0 : ∀ pc L S sh μ mc ms, P0 pc L S sh μ mc ms → gSP p l e R s m args below meth c Qf D cl cA a0 A b MC MS pc L S sh μ mc ms) (hs : g2 S fun a b S' => gOk (a * b) ∧ P0 (pc + 1) L (gI (a * b) :: S') sh μ mc ms) : gSP p l e R s m args below meth c Qf D cl cA a0 A b MC MS pc L S sh μ mc ms := by
  intro ad ls st ws H locs cells slots hnl hL hS hW hP hD hSf hc1 hc2
  obtain ⟨a, d, S', rfl, ok, hk⟩ := g2_i hs
  obtain ⟨st, rfl, ok1, hS1⟩ := hS.i1
  obtain ⟨st, rfl, ok2, hS2⟩ := hS1.i1
  have q := (h0 _ _ _ _ _ _ _ hk ad ls _ ws H locs cells slots hnl hL (gSr.mk (gVr.mkI (ok)) hS2) hW hP hD hSf hc1 hc2)
  rw [Int32.ofInt_mul] at q
  exact lv_imul hx hb hdg q
theorem s_iand (hx : p.tables.exec = Jvm.exec) (hb : c.code = cc) (hdg : decode cc pc = .ok (.iand, 1)) (h0 : ∀ pc L S sh μ mc ms, P0 pc L S sh μ mc ms → gSP p l e R s m args below meth c Qf D cl cA a0 A b MC MS pc L S sh μ mc ms) (hs : g2 S fun a b S' => P0 (pc + 1) L (gI (gAnd a b) :: S') sh μ mc ms) : gSP p l e R s m args below meth c Qf D cl cA a0 A b MC MS pc L S sh μ mc ms := by
  intro ad ls st ws H locs cells slots hnl hL hS hW hP hD hSf hc1 hc2
  obtain ⟨a, d, S', rfl, hk⟩ := g2_i hs
  obtain ⟨st, rfl, ok1, hS1⟩ := hS.i1
  obtain ⟨st, rfl, ok2, hS2⟩ := hS1.i1
  have q := (h0 _ _ _ _ _ _ _ hk ad ls _ ws H locs cells slots hnl hL (gSr.mk (gVr.mkI (g_rng _)) hS2) hW hP hD hSf hc1 hc2)
  rw [gAnd, Int32.ofInt_toInt] at q
  exact lv_iand hx hb hdg q
theorem s_ior (hx : p.tables.exec = Jvm.exec) (hb : c.code = cc) (hdg : decode cc pc = .ok (.ior, 1)) (h0 : ∀ pc L S sh μ mc ms, P0 pc L S sh μ mc ms → gSP p l e R s m args below meth c Qf D cl cA a0 A b MC MS pc L S sh μ mc ms) (hs : g2 S fun a b S' => P0 (pc + 1) L (gI (gOr a b) :: S') sh μ mc ms) : gSP p l e R s m args below meth c Qf D cl cA a0 A b MC MS pc L S sh μ mc ms := by
  intro ad ls st ws H locs cells slots hnl hL hS hW hP hD hSf hc1 hc2
  obtain ⟨a, d, S', rfl, hk⟩ := g2_i hs
  obtain ⟨st, rfl, ok1, hS1⟩ := hS.i1
  obtain ⟨st, rfl, ok2, hS2⟩ := hS1.i1
  have q := (h0 _ _ _ _ _ _ _ hk ad ls _ ws H locs cells slots hnl hL (gSr.mk (gVr.mkI (g_rng _)) hS2) hW hP hD hSf hc1 hc2)
  rw [gOr, Int32.ofInt_toInt] at q
  exact lv_ior hx hb hdg q
theorem s_ishl (hx : p.tables.exec = Jvm.exec) (hb : c.code = cc) (hdg : decode cc pc = .ok (.ishl, 1)) (h0 : ∀ pc L S sh μ mc ms, P0 pc L S sh μ mc ms → gSP p l e R s m args below meth c Qf D cl cA a0 A b MC MS pc L S sh μ mc ms) (hs : g2 S fun a b S' => P0 (pc + 1) L (gI (gShl a b) :: S') sh μ mc ms) : gSP p l e R s m args below meth c Qf D cl cA a0 A b MC MS pc L S sh μ mc ms := by
  intro ad ls st ws H locs cells slots hnl hL hS hW hP hD hSf hc1 hc2
  obtain ⟨a, d, S', rfl, hk⟩ := g2_i hs
  obtain ⟨st, rfl, ok1, hS1⟩ := hS.i1
  obtain ⟨st, rfl, ok2, hS2⟩ := hS1.i1
  have q := (h0 _ _ _ _ _ _ _ hk ad ls _ ws H locs cells slots hnl hL (gSr.mk (gVr.mkI (g_rng _)) hS2) hW hP hD hSf hc1 hc2)
  rw [gShl, Int32.ofInt_toInt] at q
  exact lv_ishl hx hb hdg q
theorem s_ishr (hx : p.tables.exec = Jvm.exec) (hb : c.code = cc) (hdg : decode cc pc = .ok (.ishr, 1)) (h0 : ∀ pc L S sh μ mc ms, P0 pc L S sh μ mc ms → gSP p l e R s m args below meth c Qf D cl cA a0 A b MC MS pc L S sh μ mc ms) (hs : g2 S fun a b S' => P0 (pc + 1) L (gI (gShr a b) :: S') sh μ mc ms) : gSP p l e R s m args below meth c Qf D cl cA a0 A b MC MS pc L S sh μ mc ms := by
  intro ad ls st ws H locs cells slots hnl hL hS hW hP hD hSf hc1 hc2
  obtain ⟨a, d, S', rfl, hk⟩ := g2_i hs
  obtain ⟨st, rfl, ok1, hS1⟩ := hS.i1
  obtain ⟨st, rfl, ok2, hS2⟩ := hS1.i1
  have q := (h0 _ _ _ _ _ _ _ hk ad ls _ ws H locs cells slots hnl hL (gSr.mk (gVr.mkI (g_rng _)) hS2) hW hP hD hSf hc1 hc2)
  rw [gShr, Int32.ofInt_toInt] at q
  exact lv_ishr hx hb hdg q
theorem s_idiv (hx : p.tables.exec = Jvm.exec) (hb : c.code = cc) (hdg : decode cc pc = .ok (.idiv, 1)) (h0 : ∀ pc L S sh μ mc ms, P0 pc L S sh μ mc ms → gSP p l e R s m args below meth c Qf D cl cA a0 A b MC MS pc L S sh μ mc ms) (hs : g2 S fun a b S' => b ≠ 0 ∧ gOk b ∧ P0 (pc + 1) L (gI (gDiv a b) :: S') sh μ mc ms) : gSP p l e R s m args below meth c Qf D cl cA a0 A b MC MS pc L S sh μ mc ms := by
  intro ad ls st ws H locs cells slots hnl hL hS hW hP hD hSf hc1 hc2
  obtain ⟨a, d, S', rfl, hz, -, hk⟩ := g2_i hs
  obtain ⟨st, rfl, ok1, hS1⟩ := hS.i1
  obtain ⟨st, rfl, ok2, hS2⟩ := hS1.i1
  have q := (h0 _ _ _ _ _ _ _ hk ad ls _ ws H locs cells slots hnl hL (gSr.mk (gVr.mkI (g_rng _)) hS2) hW hP hD hSf hc1 hc2)
  rw [gDiv, Int32.ofInt_toInt] at q
  exact lv_idiv hx hb hdg (fun z => hz (by rw [← g_toInt ok1, z]; rfl)) q
theorem s_irem (hx : p.tables.exec = Jvm.exec) (hb : c.code = cc) (hdg : decode cc pc = .ok (.irem, 1)) (h0 : ∀ pc L S sh μ mc ms, P0 pc L S sh μ mc ms → gSP p l e R s m args below meth c Qf D cl cA a0 A b MC MS pc L S sh μ mc ms) (hs : g2 S fun a b S' => b ≠ 0 ∧ gOk b ∧ P0 (pc + 1) L (gI (gRem a b) :: S') sh μ mc ms) : gSP p l e R s m args below meth c Qf D cl cA a0 A b MC MS pc L S sh μ mc ms := by
  intro ad ls st ws H locs cells slots hnl hL hS hW hP hD hSf hc1 hc2
  obtain ⟨a, d, S', rfl, hz, -, hk⟩ := g2_i hs
  obtain ⟨st, rfl, ok1, hS1⟩ := hS.i1
  obtain ⟨st, rfl, ok2, hS2⟩ := hS1.i1
  have q := (h0 _ _ _ _ _ _ _ hk ad ls _ ws H locs cells slots hnl hL (gSr.mk (gVr.mkI (g_rng _)) hS2) hW hP hD hSf hc1 hc2)
  rw [gRem, Int32.ofInt_toInt] at q
  exact lv_irem hx hb hdg (fun z => hz (by rw [← g_toInt ok1, z]; rfl)) q
theorem s_ineg (hx : p.tables.exec = Jvm.exec) (hb : c.code = cc) (hdg : decode cc pc = .ok (.ineg, 1)) (h0 : ∀ pc L S sh μ mc ms, P0 pc L S sh μ mc ms → gSP p l e R s m args below meth c Qf D cl cA a0 A b MC MS pc L S sh μ mc ms) (hs : g1 S fun a S' => gOk (-a) ∧ P0 (pc + 1) L (gI (-a) :: S') sh μ mc ms) : gSP p l e R s m args below meth c Qf D cl cA a0 A b MC MS pc L S sh μ mc ms := by
  intro ad ls st ws H locs cells slots hnl hL hS hW hP hD hSf hc1 hc2
  obtain ⟨a, S', rfl, ok, hk⟩ := g1_i hs
  obtain ⟨st, rfl, ok1, hS1⟩ := hS.i1
  have q := (h0 _ _ _ _ _ _ _ hk ad ls _ ws H locs cells slots hnl hL (gSr.mk (gVr.mkI (ok)) hS1) hW hP hD hSf hc1 hc2)
  rw [Int32.ofInt_neg] at q
  exact lv_ineg hx hb hdg q
theorem s_i2l (hx : p.tables.exec = Jvm.exec) (hb : c.code = cc) (hdg : decode cc pc = .ok (.i2l, 1)) (h0 : ∀ pc L S sh μ mc ms, P0 pc L S sh μ mc ms → gSP p l e R s m args below meth c Qf D cl cA a0 A b MC MS pc L S sh μ mc ms) (hs : g1 S fun a S' => P0 (pc + 1) L (gL a :: S') sh μ mc ms) : gSP p l e R s m args below meth c Qf D cl cA a0 A b MC MS pc L S sh μ mc ms := by
  intro ad ls st ws H locs cells slots hnl hL hS hW hP hD hSf hc1 hc2
  obtain ⟨a, S', rfl, hk⟩ := g1_i hs
  obtain ⟨st, rfl, ok1, hS1⟩ := hS.i1
  exact lv_i2l hx hb hdg (Int32.toInt64_ofInt (by have := ok1.1; rw [show Int32.minValue.toInt = -2147483648 by decide]; omega) (by have := ok1.2; rw [show Int32.maxValue.toInt = 2147483647 by decide]; omega)) (h0 _ _ _ _ _ _ _ hk ad ls _ ws H locs cells slots hnl hL (gSr.mk gVr.mkL hS1) hW hP hD hSf hc1 hc2)
theorem s_i2c (hx : p.tables.exec = Jvm.exec) (hb : c.code = cc) (hdg : decode cc pc = .ok (.i2c, 1)) (h0 : ∀ pc L S sh μ mc ms, P0 pc L S sh μ mc ms → gSP p l e R s m args below meth c Qf D cl cA a0 A b MC MS pc L S sh μ mc ms) (hs : g1 S fun a S' => (0 ≤ a ∧ a < 65536) ∧ P0 (pc + 1) L (gI a :: S') sh μ mc ms) : gSP p l e R s m args below meth c Qf D cl cA a0 A b MC MS pc L S sh μ mc ms := by
  intro ad ls st ws H locs cells slots hnl hL hS hW hP hD hSf hc1 hc2
  obtain ⟨a, S', rfl, hr, hk⟩ := g1_i hs
  obtain ⟨st, rfl, ok1, hS1⟩ := hS.i1
  refine lv_i2c (v := Int32.ofInt a) hx hb hdg ?_ (h0 _ _ _ _ _ _ _ hk ad ls _ ws H locs cells slots hnl hL (gSr.mk (gVr.mkI (ok1)) hS1) hW hP hD hSf hc1 hc2)
  obtain ⟨n, rfl⟩ := Int.eq_ofNat_of_zero_le hr.1
  rw [Int32.ofInt_eq_ofNat]
  have hq := pk_char (nI n)
  rw [pk_tn (by omega), Nat.mod_eq_of_lt (by omega)] at hq
  exact hq
theorem s_ladd (hx : p.tables.exec = Jvm.exec) (hb : c.code = cc) (hdg : decode cc pc = .ok (.ladd, 1)) (h0 : ∀ pc L S sh μ mc ms, P0 pc L S sh μ mc ms → gSP p l e R s m args below meth c Qf D cl cA a0 A b MC MS pc L S sh μ mc ms) (hs : gLl S fun a b S' => P0 (pc + 1) L (gL (a + b) :: S') sh μ mc ms) : gSP p l e R s m args below meth c Qf D cl cA a0 A b MC MS pc L S sh μ mc ms := by
  intro ad ls st ws H locs cells slots hnl hL hS hW hP hD hSf hc1 hc2
  obtain ⟨a, d, S', rfl, hk⟩ := gLl_i hs
  obtain ⟨st, rfl, hS1⟩ := hS.l1
  obtain ⟨st, rfl, hS2⟩ := hS1.l1
  have q := (h0 _ _ _ _ _ _ _ hk ad ls _ ws H locs cells slots hnl hL (gSr.mk gVr.mkL hS2) hW hP hD hSf hc1 hc2)
  rw [Int64.ofInt_add] at q
  exact lv_ladd hx hb hdg q
theorem s_lmul (hx : p.tables.exec = Jvm.exec) (hb : c.code = cc) (hdg : decode cc pc = .ok (.lmul, 1)) (h0 : ∀ pc L S sh μ mc ms, P0 pc L S sh μ mc ms → gSP p l e R s m args below meth c Qf D cl cA a0 A b MC MS pc L S sh μ mc ms) (hs : gLl S fun a b S' => P0 (pc + 1) L (gL (a * b) :: S') sh μ mc ms) : gSP p l e R s m args below meth c Qf D cl cA a0 A b MC MS pc L S sh μ mc ms := by
  intro ad ls st ws H locs cells slots hnl hL hS hW hP hD hSf hc1 hc2
  obtain ⟨a, d, S', rfl, hk⟩ := gLl_i hs
  obtain ⟨st, rfl, hS1⟩ := hS.l1
  obtain ⟨st, rfl, hS2⟩ := hS1.l1
  have q := (h0 _ _ _ _ _ _ _ hk ad ls _ ws H locs cells slots hnl hL (gSr.mk gVr.mkL hS2) hW hP hD hSf hc1 hc2)
  rw [Int64.ofInt_mul] at q
  exact lv_lmul hx hb hdg q
theorem s_lcmp (hx : p.tables.exec = Jvm.exec) (hb : c.code = cc) (hdg : decode cc pc = .ok (.lcmp, 1)) (h0 : ∀ pc L S sh μ mc ms, P0 pc L S sh μ mc ms → gSP p l e R s m args below meth c Qf D cl cA a0 A b MC MS pc L S sh μ mc ms) (hs : gLl S fun a b S' => a = b ∧ P0 (pc + 1) L (gI 0 :: S') sh μ mc ms) : gSP p l e R s m args below meth c Qf D cl cA a0 A b MC MS pc L S sh μ mc ms := by
  intro ad ls st ws H locs cells slots hnl hL hS hW hP hD hSf hc1 hc2
  obtain ⟨a, d, S', rfl, rfl, hk⟩ := gLl_i hs
  obtain ⟨st, rfl, hS1⟩ := hS.l1
  obtain ⟨st, rfl, hS2⟩ := hS1.l1
  have q := (h0 _ _ _ _ _ _ _ hk ad ls _ ws H locs cells slots hnl hL (gSr.mk (gVr.mkI (by decide)) hS2) hW hP hD hSf hc1 hc2)
  refine W.lcmp hx hb hdg ?_
  rw [show lg_cmp (Int64.ofInt a) (Int64.ofInt a) = Int32.ofInt 0 by simp [lg_cmp]]
  exact q
theorem gIf_2 {k : ClassFile.Cond} {a d : Int} (h1 : gOk a) (h2 : gOk d) : gIf k a d ↔ (match k with
    | .eq => Int32.ofInt a = Int32.ofInt d
    | .ne => ¬ Int32.ofInt a = Int32.ofInt d
    | .lt => Int32.ofInt a < Int32.ofInt d
    | .ge => Int32.ofInt d ≤ Int32.ofInt a
    | .gt => Int32.ofInt d < Int32.ofInt a
    | .le => Int32.ofInt a ≤ Int32.ofInt d) := by
  cases k
  · exact (g_eq h1 h2).symm
  · exact (not_congr (g_eq h1 h2)).symm
  · exact (g_lt h1 h2).symm
  · exact (g_le h2 h1).symm
  · exact (g_lt h2 h1).symm
  · exact (g_le h1 h2).symm
theorem s_icmp (hx : p.tables.exec = Jvm.exec) (hb : c.code = cc) {k : ClassFile.Cond} {off : Int} {x : Nat} (hdg : decode cc pc = .ok (.if_icmp k off, 3)) (ht : (pc : Int) + off = (x : Int)) (h0 : ∀ pc L S sh μ mc ms, P0 pc L S sh μ mc ms → gSP p l e R s m args below meth c Qf D cl cA a0 A b MC MS pc L S sh μ mc ms) (hs : g2 S fun a b S' => gBr (gIf k a b) (P0 x L S' sh μ mc ms) (P0 (pc + 3) L S' sh μ mc ms)) : gSP p l e R s m args below meth c Qf D cl cA a0 A b MC MS pc L S sh μ mc ms := by
  intro ad ls st ws H locs cells slots hnl hL hS hW hP hD hSf hc1 hc2
  obtain ⟨a, d, S', rfl, hk⟩ := g2_i hs
  obtain ⟨st, rfl, ok2, hS1⟩ := hS.i1
  obtain ⟨st, rfl, ok1, hS2⟩ := hS1.i1
  have hi := gIf_2 (k := k) ok1 ok2
  cases k
  · exact lv_icmp_eq hx hb hdg ht (fun q => h0 _ _ _ _ _ _ _ (hk.1 (hi.mpr q)) ad ls _ ws H locs cells slots hnl hL hS2 hW hP hD hSf hc1 hc2) (fun q => h0 _ _ _ _ _ _ _ (hk.2 (fun z => q (hi.mp z))) ad ls _ ws H locs cells slots hnl hL hS2 hW hP hD hSf hc1 hc2)
  · exact lv_icmp_ne hx hb hdg ht (fun q => h0 _ _ _ _ _ _ _ (hk.1 (hi.mpr q)) ad ls _ ws H locs cells slots hnl hL hS2 hW hP hD hSf hc1 hc2) (fun q => h0 _ _ _ _ _ _ _ (hk.2 (fun z => hi.mp z q)) ad ls _ ws H locs cells slots hnl hL hS2 hW hP hD hSf hc1 hc2)
  · exact lv_icmp_lt hx hb hdg ht (fun q => h0 _ _ _ _ _ _ _ (hk.1 (hi.mpr q)) ad ls _ ws H locs cells slots hnl hL hS2 hW hP hD hSf hc1 hc2) (fun q => h0 _ _ _ _ _ _ _ (hk.2 (fun z => q (hi.mp z))) ad ls _ ws H locs cells slots hnl hL hS2 hW hP hD hSf hc1 hc2)
  · exact lv_icmp_ge hx hb hdg ht (fun q => h0 _ _ _ _ _ _ _ (hk.1 (hi.mpr q)) ad ls _ ws H locs cells slots hnl hL hS2 hW hP hD hSf hc1 hc2) (fun q => h0 _ _ _ _ _ _ _ (hk.2 (fun z => q (hi.mp z))) ad ls _ ws H locs cells slots hnl hL hS2 hW hP hD hSf hc1 hc2)
  · exact lv_icmp_gt hx hb hdg ht (fun q => h0 _ _ _ _ _ _ _ (hk.1 (hi.mpr q)) ad ls _ ws H locs cells slots hnl hL hS2 hW hP hD hSf hc1 hc2) (fun q => h0 _ _ _ _ _ _ _ (hk.2 (fun z => q (hi.mp z))) ad ls _ ws H locs cells slots hnl hL hS2 hW hP hD hSf hc1 hc2)
  · exact lv_icmp_le hx hb hdg ht (fun q => h0 _ _ _ _ _ _ _ (hk.1 (hi.mpr q)) ad ls _ ws H locs cells slots hnl hL hS2 hW hP hD hSf hc1 hc2) (fun q => h0 _ _ _ _ _ _ _ (hk.2 (fun z => q (hi.mp z))) ad ls _ ws H locs cells slots hnl hL hS2 hW hP hD hSf hc1 hc2)
theorem s_if (hx : p.tables.exec = Jvm.exec) (hb : c.code = cc) {k : ClassFile.Cond} {off : Int} {x : Nat} (hdg : decode cc pc = .ok (.ifCond k off, 3)) (ht : (pc : Int) + off = (x : Int)) (h0 : ∀ pc L S sh μ mc ms, P0 pc L S sh μ mc ms → gSP p l e R s m args below meth c Qf D cl cA a0 A b MC MS pc L S sh μ mc ms) (hs : g1 S fun a S' => gBr (gIf k a 0) (P0 x L S' sh μ mc ms) (P0 (pc + 3) L S' sh μ mc ms)) : gSP p l e R s m args below meth c Qf D cl cA a0 A b MC MS pc L S sh μ mc ms := by
  intro ad ls st ws H locs cells slots hnl hL hS hW hP hD hSf hc1 hc2
  obtain ⟨a, S', rfl, hk⟩ := g1_i hs
  obtain ⟨st, rfl, ok1, hS1⟩ := hS.i1
  have hi := gIf_2 (k := k) (d := 0) ok1 (by decide)
  cases k
  · exact lv_if_eq hx hb hdg ht (fun q => h0 _ _ _ _ _ _ _ (hk.1 (hi.mpr q)) ad ls _ ws H locs cells slots hnl hL hS1 hW hP hD hSf hc1 hc2) (fun q => h0 _ _ _ _ _ _ _ (hk.2 (fun z => q (hi.mp z))) ad ls _ ws H locs cells slots hnl hL hS1 hW hP hD hSf hc1 hc2)
  · exact lv_if_ne hx hb hdg ht (fun q => h0 _ _ _ _ _ _ _ (hk.1 (hi.mpr q)) ad ls _ ws H locs cells slots hnl hL hS1 hW hP hD hSf hc1 hc2) (fun q => h0 _ _ _ _ _ _ _ (hk.2 (fun z => hi.mp z q)) ad ls _ ws H locs cells slots hnl hL hS1 hW hP hD hSf hc1 hc2)
  · exact lv_if_lt hx hb hdg ht (fun q => h0 _ _ _ _ _ _ _ (hk.1 (hi.mpr q)) ad ls _ ws H locs cells slots hnl hL hS1 hW hP hD hSf hc1 hc2) (fun q => h0 _ _ _ _ _ _ _ (hk.2 (fun z => q (hi.mp z))) ad ls _ ws H locs cells slots hnl hL hS1 hW hP hD hSf hc1 hc2)
  · exact lv_if_ge hx hb hdg ht (fun q => h0 _ _ _ _ _ _ _ (hk.1 (hi.mpr q)) ad ls _ ws H locs cells slots hnl hL hS1 hW hP hD hSf hc1 hc2) (fun q => h0 _ _ _ _ _ _ _ (hk.2 (fun z => q (hi.mp z))) ad ls _ ws H locs cells slots hnl hL hS1 hW hP hD hSf hc1 hc2)
  · exact lv_if_gt hx hb hdg ht (fun q => h0 _ _ _ _ _ _ _ (hk.1 (hi.mpr q)) ad ls _ ws H locs cells slots hnl hL hS1 hW hP hD hSf hc1 hc2) (fun q => h0 _ _ _ _ _ _ _ (hk.2 (fun z => q (hi.mp z))) ad ls _ ws H locs cells slots hnl hL hS1 hW hP hD hSf hc1 hc2)
  · exact lv_if_le hx hb hdg ht (fun q => h0 _ _ _ _ _ _ _ (hk.1 (hi.mpr q)) ad ls _ ws H locs cells slots hnl hL hS1 hW hP hD hSf hc1 hc2) (fun q => h0 _ _ _ _ _ _ _ (hk.2 (fun z => q (hi.mp z))) ad ls _ ws H locs cells slots hnl hL hS1 hW hP hD hSf hc1 hc2)
theorem s_goto (hx : p.tables.exec = Jvm.exec) (hb : c.code = cc) {off : Int} {x : Nat} (hdg : decode cc pc = .ok (.goto off, 3)) (ht : (pc : Int) + off = (x : Int)) (h0 : ∀ pc L S sh μ mc ms, P0 pc L S sh μ mc ms → gSP p l e R s m args below meth c Qf D cl cA a0 A b MC MS pc L S sh μ mc ms) (hk : P0 x L S sh μ mc ms) : gSP p l e R s m args below meth c Qf D cl cA a0 A b MC MS pc L S sh μ mc ms := by
  intro ad ls st ws H locs cells slots hnl hL hS hW hP hD hSf hc1 hc2
  exact lv_goto hx hb hdg ht (h0 _ _ _ _ _ _ _ (hk) ad ls _ ws H locs cells slots hnl hL hS hW hP hD hSf hc1 hc2)
theorem s_ifnull_r (hx : p.tables.exec = Jvm.exec) (hb : c.code = cc) {off : Int} {x k : Nat} (hdg : decode cc pc = .ok (.ifnull off, 3)) (ht : (pc : Int) + off = (x : Int)) (h0 : ∀ pc L S sh μ mc ms, P0 pc L S sh μ mc ms → gSP p l e R s m args below meth c Qf D cl cA a0 A b MC MS pc L S sh μ mc ms) (hk : P0 (pc + 3) L S sh μ mc ms) : gSP p l e R s m args below meth c Qf D cl cA a0 A b MC MS pc L (gR k :: S) sh μ mc ms := by
  intro ad ls st ws H locs cells slots hnl hL hS hW hP hD hSf hc1 hc2
  obtain ⟨a, st, rfl, -, hS1⟩ := hS.r1
  exact lv_ifnull hx hb hdg (h0 _ _ _ _ _ _ _ (hk) ad ls _ ws H locs cells slots hnl hL hS1 hW hP hD hSf hc1 hc2)
theorem s_ifnull_n (hx : p.tables.exec = Jvm.exec) (hb : c.code = cc) {off : Int} {x : Nat} (hdg : decode cc pc = .ok (.ifnull off, 3)) (ht : (pc : Int) + off = (x : Int)) (h0 : ∀ pc L S sh μ mc ms, P0 pc L S sh μ mc ms → gSP p l e R s m args below meth c Qf D cl cA a0 A b MC MS pc L S sh μ mc ms) (hk : P0 x L S sh μ mc ms) : gSP p l e R s m args below meth c Qf D cl cA a0 A b MC MS pc L (gN 0 :: S) sh μ mc ms := by
  intro ad ls st ws H locs cells slots hnl hL hS hW hP hD hSf hc1 hc2
  obtain ⟨w, st, rfl, hw, hS1⟩ := hS.c1
  rw [show w = .null from hw]
  exact lv_ifnullN hx hb hdg ht (h0 _ _ _ _ _ _ _ (hk) ad ls _ ws H locs cells slots hnl hL hS1 hW hP hD hSf hc1 hc2)
theorem s_ifnonnull_r (hx : p.tables.exec = Jvm.exec) (hb : c.code = cc) {off : Int} {x k : Nat} (hdg : decode cc pc = .ok (.ifnonnull off, 3)) (ht : (pc : Int) + off = (x : Int)) (h0 : ∀ pc L S sh μ mc ms, P0 pc L S sh μ mc ms → gSP p l e R s m args below meth c Qf D cl cA a0 A b MC MS pc L S sh μ mc ms) (hk : P0 x L S sh μ mc ms) : gSP p l e R s m args below meth c Qf D cl cA a0 A b MC MS pc L (gR k :: S) sh μ mc ms := by
  intro ad ls st ws H locs cells slots hnl hL hS hW hP hD hSf hc1 hc2
  obtain ⟨a, st, rfl, -, hS1⟩ := hS.r1
  exact lv_ifnonnull hx hb hdg ht (h0 _ _ _ _ _ _ _ (hk) ad ls _ ws H locs cells slots hnl hL hS1 hW hP hD hSf hc1 hc2)
theorem s_ifnonnull_n (hx : p.tables.exec = Jvm.exec) (hb : c.code = cc) {off : Int} {x : Nat} (hdg : decode cc pc = .ok (.ifnonnull off, 3)) (ht : (pc : Int) + off = (x : Int)) (h0 : ∀ pc L S sh μ mc ms, P0 pc L S sh μ mc ms → gSP p l e R s m args below meth c Qf D cl cA a0 A b MC MS pc L S sh μ mc ms) (hk : P0 (pc + 3) L S sh μ mc ms) : gSP p l e R s m args below meth c Qf D cl cA a0 A b MC MS pc L (gN 0 :: S) sh μ mc ms := by
  intro ad ls st ws H locs cells slots hnl hL hS hW hP hD hSf hc1 hc2
  obtain ⟨w, st, rfl, hw, hS1⟩ := hS.c1
  rw [show w = .null from hw]
  exact lv_ifnonnullN hx hb hdg (h0 _ _ _ _ _ _ _ (hk) ad ls _ ws H locs cells slots hnl hL hS1 hW hP hD hSf hc1 hc2)
theorem gSw_i {a : Int} {k : Int → Prop} : ∀ {t : List Int} {j : Int} {i : Nat} {o : Int}, gSw a j t k → t[i]? = some o → a = j + i → k o
  | [], _, _, _, _, h, _ => by simp at h
  | o :: t, j, 0, o', h, ho, ha => by
    simp at ho; subst ho
    exact h.1 (by simpa using ha)
  | o :: t, j, i + 1, o', h, ho, ha => gSw_i (t := t) (j := j + 1) (i := i) h.2 (by simpa using ho) (by omega)
theorem s_table (hx : p.tables.exec = Jvm.exec) (hb : c.code = cc) {d lo hi : Int} {offs : Array Int} {x : Nat} (hdg : decode cc pc = .ok (.tableswitch d lo hi offs, x)) (h0 : ∀ pc L S sh μ mc ms, P0 pc L S sh μ mc ms → gSP p l e R s m args below meth c Qf D cl cA a0 A b MC MS pc L S sh μ mc ms) (hs : g1 S fun a S' => gIs (decide ((offs.size : Int) = hi - lo + 1) && decide (0 ≤ (pc : Int) + d)) ((a < lo ∨ hi < a → P0 ((pc : Int) + d).toNat L S' sh μ mc ms) ∧ gSw a lo offs.toList fun o => gIs (decide (0 ≤ (pc : Int) + o)) (P0 ((pc : Int) + o).toNat L S' sh μ mc ms))) : gSP p l e R s m args below meth c Qf D cl cA a0 A b MC MS pc L S sh μ mc ms := by
  intro ad ls st ws H locs cells slots hnl hL hS hW hP hD hSf hc1 hc2
  obtain ⟨a, S', rfl, hk⟩ := g1_i hs
  obtain ⟨st, rfl, ok1, hS1⟩ := hS.i1
  obtain ⟨hq, hk1, hk2⟩ := gIs_t hk
  rw [Bool.and_eq_true, decide_eq_true_eq, decide_eq_true_eq] at hq
  obtain ⟨hz, hd⟩ := hq
  by_cases hab : a < lo ∨ hi < a
  · exact lv_tableOut hx hb hdg (by rw [g_toInt ok1]; exact hab) (Int.toNat_of_nonneg hd).symm (h0 _ _ _ _ _ _ _ (hk1 hab) ad ls _ ws H locs cells slots hnl hL hS1 hW hP hD hSf hc1 hc2)
  · have h1 : ¬ a < lo := fun q => hab (Or.inl q)
    have h2 : ¬ hi < a := fun q => hab (Or.inr q)
    have hlt : (a - lo).toNat < offs.toList.length := by rw [Array.length_toList]; omega
    have ho : offs.toList[(a - lo).toNat]? = some offs.toList[(a - lo).toNat] := List.getElem?_eq_getElem hlt
    obtain ⟨h3, h4⟩ := gIs_t (gSw_i hk2 ho (by omega))
    rw [decide_eq_true_eq] at h3
    refine lv_tableIn (off := offs.toList[(a - lo).toNat]) hx hb hdg (by rw [g_toInt ok1]; exact h1) (by rw [g_toInt ok1]; exact h2) (by rw [g_toInt ok1, ← Array.getElem?_toList]; exact ho) (Int.toNat_of_nonneg h3).symm (h0 _ _ _ _ _ _ _ (h4) ad ls _ ws H locs cells slots hnl hL hS1 hW hP hD hSf hc1 hc2)
end GS
