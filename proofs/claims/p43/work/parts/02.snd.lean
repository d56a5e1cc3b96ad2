/-! ===== what the small machine's values and cells are in the real one ===== -/
def gVr (ad : List Nat) (b : Nat) : GV → Value → Prop
  | .inl n, v => v = .int (Int32.ofInt n) ∧ gOk n
  | .inr (.inl k), v => ∃ a, ad[k]? = some a ∧ v = .ref a
  | .inr (.inr (.inl n)), v => v = .long (Int64.ofInt n)
  | .inr (.inr (.inr 0)), v => v = .null
  | .inr (.inr (.inr 1)), v => v = .ref b
  | _, _ => False
def gHv : GV → Bool
  | .inr (.inr (.inr k)) => Nat.blt k 2
  | _ => true
def gSr (ad : List Nat) (b : Nat) : List GV → List Value → Prop
  | [], [] => True
  | v :: S, w :: st => gVr ad b v w ∧ gSr ad b S st
  | _, _ => False
def gLv (ad : List Nat) (b : Nat) (L : List GV) (lv : List (Nat × Value)) : Prop := ∀ (i : Nat) (v : GV), L[i]? = some v → gHv v = true → ∃ w, (i, w) ∈ lv ∧ gVr ad b v w
def gLr (ad : List Nat) (b : Nat) (L : List GV) (ls : Array Slot) : Prop := ∃ lv, lv_has ls L.length lv ∧ gLv ad b L lv
def gCe (cA : Nat → ClassId) (ad : List Nat) (b : Nat) (c : GC) (r : Int → Int) (e : va_E) : Prop :=
  (c.1 < 100 ∧ c.2.2.length = c.2.1 ∧ ∃ fs : List Value, e = .inr (c.1, fs) ∧ fs.length = c.2.1 ∧ ∀ (k : Nat) (o : Option GV), c.2.2[k]? = some o → ∃ w, fs[k]? = some w ∧ (match o with
    | none => gVr ad b (gI (r k)) w
    | some v => gTr v = true ∧ gVr ad b v w))
  ∨ (100 ≤ c.1 ∧ c.1 < 103 ∧ ∃ f : Nat → Int32, e = .inl (cA (c.1 - 100), c.2.1, .inl f) ∧ ∀ j : Nat, j < c.2.1 → f j = Int32.ofInt (r j) ∧ gOk (r j))
  ∨ (c.1 = 103 ∧ c.2.2.length = c.2.1 ∧ ∃ f : Nat → Option Nat, e = .inl (cA 3, c.2.1, .inr (.inr (.inr (.inr f)))) ∧ ∀ (j : Nat) (o : Option GV), c.2.2[j]? = some o → (o = some (gN 0) ∧ f j = none) ∨ ∃ k a, o = some (gR k) ∧ ad[k]? = some a ∧ f j = some a)
def gWr (cA : Nat → ClassId) (a0 ad : List Nat) (b : Nat) (sh : SH) (μ : MU) (ws : va_W) : Prop := ws.map Prod.fst = ad ∧ ws.length = sh.length ∧ (∀ (k : Nat) (c : GC), sh[k]? = some c → ∃ q : Nat × va_E, ws[k]? = some q ∧ gCe cA ad b c (μ k) q.2) ∧ ∀ k a : Nat, a0[k]? = some a → ad[k]? = some a
theorem g_toInt {n : Int} (h : gOk n) : (Int32.ofInt n).toInt = n := Int32.toInt_ofInt_of_le (by have := h.1; omega) (by have := h.2; omega)
theorem g_le {a b : Int} (ha : gOk a) (hb : gOk b) : Int32.ofInt a ≤ Int32.ofInt b ↔ a ≤ b := by rw [Int32.le_iff_toInt_le, g_toInt ha, g_toInt hb]
theorem g_lt {a b : Int} (ha : gOk a) (hb : gOk b) : Int32.ofInt a < Int32.ofInt b ↔ a < b := by rw [Int32.lt_iff_toInt_lt, g_toInt ha, g_toInt hb]
theorem g_eq {a b : Int} (ha : gOk a) (hb : gOk b) : Int32.ofInt a = Int32.ofInt b ↔ a = b := by rw [← Int32.toInt_inj, g_toInt ha, g_toInt hb]
theorem g_cl {a : Int} (ha : gOk a) : (Int32.ofInt a).toNatClampNeg = a.toNat := by rw [← Int32.toNat_toInt, g_toInt ha]
theorem g_rng (x : Int32) : gOk x.toInt := ⟨Int32.le_toInt x, Int32.toInt_lt x⟩
theorem g_in {i : Int} {n : Nat} (hi : gOk i) (h0 : 0 ≤ i) (h1 : i < n) : vp_in (Int32.ofInt i) n := vp_in_iff.mpr (by rw [g_toInt hi]; exact ⟨h0, h1⟩)
theorem gVr.cat {ad : List Nat} {b : Nat} {v : GV} {w : Value} (h : gVr ad b v w) (hc : gC1 v = true) : w.category = 1 := by
  rcases v with n | k | n | k
  · rw [h.1]; rfl
  · obtain ⟨a, -, rfl⟩ := h; rfl
  · cases hc
  · match k, h with
    | 0, h => rw [show w = .null from h]; rfl
    | 1, h => rw [show w = .ref b from h]; rfl
theorem gVr.nl {ad : List Nat} {b : Nat} {v : GV} {w : Value} (h : gVr ad b v w) (hc : ∀ n, v ≠ gL n) : w.category = 1 := by
  rcases v with n | k | n | k
  · rw [h.1]; rfl
  · obtain ⟨a, -, rfl⟩ := h; rfl
  · exact absurd rfl (hc n)
  · match k, h with
    | 0, h => rw [show w = .null from h]; rfl
    | 1, h => rw [show w = .ref b from h]; rfl
theorem gVr.mono {ad ad' : List Nat} {b : Nat} (ha : ∀ (k a : Nat), ad[k]? = some a → ad'[k]? = some a) {v : GV} {w : Value} (h : gVr ad b v w) : gVr ad' b v w := by
  rcases v with n | k | n | k
  · exact h
  · obtain ⟨a, h1, h2⟩ := h; exact ⟨a, ha k a h1, h2⟩
  · exact h
  · match k, h with
    | 0, h => exact h
    | 1, h => exact h
theorem gSr.mono {ad ad' : List Nat} {b : Nat} (ha : ∀ (k a : Nat), ad[k]? = some a → ad'[k]? = some a) : ∀ {S : List GV} {st : List Value}, gSr ad b S st → gSr ad' b S st
  | [], [], _ => trivial
  | _ :: _, _ :: _, h => ⟨h.1.mono ha, gSr.mono ha h.2⟩
theorem gLr.mono {ad ad' : List Nat} {b : Nat} (ha : ∀ (k a : Nat), ad[k]? = some a → ad'[k]? = some a) {L : List GV} {ls : Array Slot} (h : gLr ad b L ls) : gLr ad' b L ls := by
  obtain ⟨lv, h1, h2⟩ := h
  refine ⟨lv, h1, fun i v hv hh => ?_⟩
  obtain ⟨w, h3, h4⟩ := h2 i v hv hh
  exact ⟨w, h3, h4.mono ha⟩
theorem gCe.mono {cA : Nat → ClassId} {ad ad' : List Nat} {b : Nat} (ha : ∀ (k a : Nat), ad[k]? = some a → ad'[k]? = some a) {c : GC} {r : Int → Int} {e : va_E} (h : gCe cA ad b c r e) : gCe cA ad' b c r e := by
  rcases h with ⟨h1, h2, fs, h3, h4, h5⟩ | h | ⟨h1, h2, f, h3, h4⟩
  · refine Or.inl ⟨h1, h2, fs, h3, h4, fun k o ho => ?_⟩
    obtain ⟨w, h6, h7⟩ := h5 k o ho
    refine ⟨w, h6, ?_⟩
    cases o with
    | none => exact h7
    | some v => exact ⟨h7.1, h7.2.mono ha⟩
  · exact Or.inr (Or.inl h)
  · refine Or.inr (Or.inr ⟨h1, h2, f, h3, fun j o ho => ?_⟩)
    rcases h4 j o ho with h | ⟨k, a, h5, h6, h7⟩
    · exact Or.inl h
    · exact Or.inr ⟨k, a, h5, ha k a h6, h7⟩
theorem gWr.at {cA : Nat → ClassId} {a0 ad : List Nat} {b : Nat} {sh : SH} {μ : MU} {ws : va_W} (h : gWr cA a0 ad b sh μ ws) {k a : Nat} {c : GC} (hk : sh[k]? = some c) (ha : ad[k]? = some a) : ∃ e, ws[k]? = some (a, e) ∧ gCe cA ad b c (μ k) e := by
  obtain ⟨q, h1, h2⟩ := h.2.2.1 k c hk
  refine ⟨q.2, ?_, h2⟩
  rw [← h.1, List.getElem?_map, h1] at ha
  cases ha
  exact h1
theorem gLr.get {ad : List Nat} {b : Nat} {L : List GV} {ls : Array Slot} (h : gLr ad b L ls) {i : Nat} {v : GV} (hv : L[i]? = some v) (hh : gHv v = true) : ∃ w, ls[i]? = some (.val w) ∧ gVr ad b v w := by
  obtain ⟨lv, h1, h2⟩ := h
  obtain ⟨w, h3, h4⟩ := h2 i v hv hh
  exact ⟨w, h1.2.2 _ h3, h4⟩
theorem gLv.set {ad : List Nat} {b : Nat} {L : List GV} {lv : List (Nat × Value)} (h : gLv ad b L lv) {i : Nat} {v : GV} {w : Value} (hi : i < L.length) (hn : gNoL L i = true) (hv : gVr ad b v w) {ls' : Array Slot}
    (h' : lv_has ls' L.length ((i, w) :: lv.filter (fun q => !(q.1 == i) && !(q.1 + 1 == i && q.2.category == 2)))) : gLr ad b (L.set i v) ls' := by
  refine ⟨_, by rw [List.length_set]; exact h', fun j u hj hu => ?_⟩
  by_cases hji : j = i
  · subst hji
    rw [List.getElem?_set_self hi] at hj
    cases hj
    exact ⟨w, List.mem_cons_self, hv⟩
  · rw [List.getElem?_set_ne (Ne.symm hji)] at hj
    obtain ⟨w', hm, hr⟩ := h j u hj hu
    refine ⟨w', List.mem_cons_of_mem _ (List.mem_filter.mpr ⟨hm, ?_⟩), hr⟩
    by_cases hj1 : j + 1 = i
    · subst hj1
      have hc : w'.category = 1 := hr.nl (fun n hn' => by subst hn'; simp [gNoL, hj] at hn)
      simp [hc]
    · simp [hji, hj1]
theorem gLv.set2 {ad : List Nat} {b : Nat} {L : List GV} {lv : List (Nat × Value)} (h : gLv ad b L lv) {i : Nat} {v : GV} {w : Value} (hi : i + 1 < L.length) (hn : gNoL L i = true) (hv : gVr ad b v w) {ls' : Array Slot}
    (h' : lv_has ls' L.length ((i, w) :: lv.filter (fun q => !(q.1 == i) && (!(q.1 == i + 1) && !(q.1 + 1 == i && q.2.category == 2))))) : gLr ad b ((L.set i v).set (i + 1) (gN 2)) ls' := by
  refine ⟨_, by rw [List.length_set, List.length_set]; exact h', fun j u hj hu => ?_⟩
  by_cases hj2 : j = i + 1
  · subst hj2
    rw [List.getElem?_set_self (by rw [List.length_set]; exact hi)] at hj
    cases hj
    cases hu
  · rw [List.getElem?_set_ne (Ne.symm hj2)] at hj
    by_cases hji : j = i
    · subst hji
      rw [List.getElem?_set_self (by omega)] at hj
      cases hj
      exact ⟨w, List.mem_cons_self, hv⟩
    · rw [List.getElem?_set_ne (Ne.symm hji)] at hj
      obtain ⟨w', hm, hr⟩ := h j u hj hu
      refine ⟨w', List.mem_cons_of_mem _ (List.mem_filter.mpr ⟨hm, ?_⟩), hr⟩
      by_cases hj1 : j + 1 = i
      · subst hj1
        have hc : w'.category = 1 := hr.nl (fun n hn' => by subst hn'; simp [gNoL, hj] at hn)
        simp [hc, hj2]
      · simp [hji, hj1, hj2]
theorem gWr.set {cA : Nat → ClassId} {a0 ad : List Nat} {b : Nat} {sh : SH} {μ μ' : MU} {ws : va_W} (h : gWr cA a0 ad b sh μ ws) {k a : Nat} {c c' : GC} {e e' : va_E} (hk : sh[k]? = some c) (ha : ws[k]? = some (a, e)) (he : gCe cA ad b c' (μ' k) e') (ho : ∀ j, j ≠ k → μ' j = μ j) : gWr cA a0 ad b (sh.set k c') μ' (ws.set k (a, e')) := by
  have hkl := (List.getElem?_eq_some_iff.mp hk).1
  have hwl := (List.getElem?_eq_some_iff.mp ha).1
  refine ⟨?_, by rw [List.length_set, List.length_set]; exact h.2.1, fun j d hd => ?_, h.2.2.2⟩
  · rw [← h.1]
    apply List.ext_getElem?
    intro j
    rw [List.getElem?_map, List.getElem?_map]
    by_cases hj : j = k
    · subst hj; rw [List.getElem?_set_self hwl, ha]; rfl
    · rw [List.getElem?_set_ne (Ne.symm hj)]
  · by_cases hj : j = k
    · subst hj
      rw [List.getElem?_set_self hkl] at hd
      cases hd
      exact ⟨(a, e'), by rw [List.getElem?_set_self hwl], he⟩
    · rw [List.getElem?_set_ne (Ne.symm hj)] at hd
      obtain ⟨q, h1, h2⟩ := h.2.2.1 j d hd
      exact ⟨q, by rw [List.getElem?_set_ne (Ne.symm hj)]; exact h1, by rw [ho j hj]; exact h2⟩
theorem gWr.push {cA : Nat → ClassId} {a0 ad : List Nat} {b : Nat} {sh : SH} {μ μ' : MU} {ws : va_W} (h : gWr cA a0 ad b sh μ ws) {q : Nat} {c : GC} {e : va_E} (he : gCe cA (ad ++ [q]) b c (μ' sh.length) e) (ho : ∀ j, j ≠ sh.length → μ' j = μ j) : gWr cA a0 (ad ++ [q]) b (sh ++ [c]) μ' (ws ++ [(q, e)]) := by
  have hmono : ∀ (k a : Nat), ad[k]? = some a → (ad ++ [q])[k]? = some a := fun k a hk => by rw [List.getElem?_append_left (List.getElem?_eq_some_iff.mp hk).1]; exact hk
  refine ⟨by rw [List.map_append, h.1]; rfl, by rw [List.length_append, List.length_append, h.2.1]; rfl, fun j d hd => ?_, fun k a hk => hmono k a (h.2.2.2 k a hk)⟩
  by_cases hj : j < sh.length
  · rw [List.getElem?_append_left hj] at hd
    obtain ⟨x, h1, h2⟩ := h.2.2.1 j d hd
    exact ⟨x, by rw [List.getElem?_append_left (by rw [h.2.1]; exact hj)]; exact h1, by rw [ho j (by omega)]; exact h2.mono hmono⟩
  · rw [List.getElem?_append_right (by omega)] at hd
    have hz : j - sh.length < 1 := (List.getElem?_eq_some_iff.mp hd).1
    have hjj : j = sh.length := by omega
    subst hjj
    rw [Nat.sub_self] at hd
    cases hd
    exact ⟨(q, e), by rw [List.getElem?_append_right (by rw [h.2.1]; exact Nat.le_refl _), h.2.1, Nat.sub_self]; rfl, he⟩
theorem gWr.len {cA : Nat → ClassId} {a0 ad : List Nat} {b : Nat} {sh : SH} {μ : MU} {ws : va_W} (h : gWr cA a0 ad b sh μ ws) : ad.length = sh.length := by rw [← h.1, List.length_map, h.2.1]
theorem gVr.mkI {ad : List Nat} {b : Nat} {n : Int} (ok : gOk n) : gVr ad b (gI n) (.int (Int32.ofInt n)) := ⟨rfl, ok⟩
theorem gVr.mkL {ad : List Nat} {b : Nat} {n : Int} : gVr ad b (gL n) (.long (Int64.ofInt n)) := rfl
theorem gVr.mkN {ad : List Nat} {b : Nat} : gVr ad b (gN 0) .null := rfl
theorem gVr.mkR {ad : List Nat} {b k a : Nat} (h : ad[k]? = some a) : gVr ad b (gR k) (.ref a) := ⟨a, h, rfl⟩
theorem gSr.mk {ad : List Nat} {b : Nat} {v : GV} {w : Value} {S : List GV} {st : List Value} (hv : gVr ad b v w) (h : gSr ad b S st) : gSr ad b (v :: S) (w :: st) := ⟨hv, h⟩
theorem gWr.base {cA : Nat → ClassId} {a0 a1 ad : List Nat} {b : Nat} {sh : SH} {μ : MU} {ws : va_W} (h : gWr cA a0 ad b sh μ ws) (h1 : ∀ k a : Nat, a1[k]? = some a → ad[k]? = some a) : gWr cA a1 ad b sh μ ws := ⟨h.1, h.2.1, h.2.2.1, h1⟩
