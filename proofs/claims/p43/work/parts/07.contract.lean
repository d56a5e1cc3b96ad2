/-! ===== every method's contract, by the depth of its calls ===== -/
theorem vc_i (x : Int32) : ¬ (Value.int x).category = 2 := fun q => absurd (show (1 : Nat) = 2 from q) (by decide)
theorem vc_r (x : Nat) : ¬ (Value.ref x).category = 2 := fun q => absurd (show (1 : Nat) = 2 from q) (by decide)
theorem vc_n : ¬ Value.null.category = 2 := fun q => absurd (show (1 : Nat) = 2 from q) (by decide)
theorem vc_l (x : Int64) : (Value.long x).category = 2 := rfl
theorem gArgs_len {ad : List Nat} {b : Nat} : ∀ {as : List GV} {st : List Value}, gSr ad b as st → (lg_sl st).length = (gArgs as).length
  | [], [], _ => rfl
  | v :: as, w :: st, h => by
    have ih := gArgs_len h.2
    have hc : lg_sl (w :: st) = (if w.category = 2 then [.val w, .second] else [.val w]) ++ lg_sl st := rfl
    rw [hc, List.length_append, ih]
    have hv := h.1
    rcases v with n | k | n | k
    · rw [hv.1, if_neg (vc_i _)]; show 1 + _ = _ + 1; omega
    · obtain ⟨a, -, rfl⟩ := hv; rw [if_neg (vc_r _)]; show 1 + _ = _ + 1; omega
    · rw [show w = .long (Int64.ofInt n) from hv, if_pos (vc_l _)]; show 2 + _ = _ + 1 + 1; omega
    · match k, hv with
      | 0, hv => rw [show w = .null from hv, if_neg vc_n]; show 1 + _ = _ + 1; omega
      | 1, hv => rw [show w = .ref b from hv, if_neg (vc_r _)]; show 1 + _ = _ + 1; omega
theorem gArgs_at {ad : List Nat} {b : Nat} : ∀ {as : List GV} {st : List Value}, gSr ad b as st → ∀ (j i : Nat) (v : GV), (gArgs as)[i]? = some v → gHv v = true → ∃ w, (j + i, w) ∈ lv_args j st ∧ gVr ad b v w
  | [], [], _, j, i, v, hv, _ => by simp [gArgs] at hv
  | u :: as, w :: st, h, j, i, v, hv, hh => by
    have hu := h.1
    have one : w.category ≠ 2 → (i = 0 → v = u) → (∀ n, i = n + 1 → (gArgs as)[n]? = some v) → ∃ w', (j + i, w') ∈ lv_args j (w :: st) ∧ gVr ad b v w' := by
      intro hc h0 h1
      cases i with
      | zero => rw [h0 rfl]; exact ⟨w, List.mem_cons_self, hu⟩
      | succ n =>
        obtain ⟨w', hm, hr⟩ := gArgs_at h.2 (j + 1) n v (h1 n rfl) hh
        refine ⟨w', List.mem_cons_of_mem _ ?_, hr⟩
        rw [if_neg hc, show j + (n + 1) = j + 1 + n by omega]
        exact hm
    rcases u with n | k | n | k
    · refine one (by rw [hu.1]; exact vc_i _) (fun hi => ?_) (fun n hi => ?_)
      · subst hi; simpa [gArgs] using hv.symm
      · subst hi; simpa [gArgs] using hv
    · refine one (by obtain ⟨a, -, rfl⟩ := hu; exact vc_r _) (fun hi => ?_) (fun n hi => ?_)
      · subst hi; simpa [gArgs] using hv.symm
      · subst hi; simpa [gArgs] using hv
    · have hw : w = .long (Int64.ofInt n) := hu
      subst hw
      cases i with
      | zero =>
        have : v = gL n := by simpa [gArgs] using hv.symm
        subst this
        exact ⟨_, List.mem_cons_self, rfl⟩
      | succ i =>
        cases i with
        | zero =>
          have : v = gN 2 := by simpa [gArgs] using hv.symm
          subst this
          cases hh
        | succ i =>
          obtain ⟨w', hm, hr⟩ := gArgs_at h.2 (j + 2) i v (by simpa [gArgs] using hv) hh
          refine ⟨w', List.mem_cons_of_mem _ ?_, hr⟩
          rw [if_pos (vc_l _), show j + (i + 1 + 1) = j + 2 + i by omega]
          exact hm
    · refine one (by match k, hu with
        | 0, hu => rw [show w = .null from hu]; exact vc_n
        | 1, hu => rw [show w = .ref b from hu]; exact vc_r _) (fun hi => ?_) (fun n hi => ?_)
      · subst hi; simpa [gArgs] using hv.symm
      · subst hi; simpa [gArgs] using hv
theorem gLr.entry {ad : List Nat} {b : Nat} {as : List GV} {st : List Value} (h : gSr ad b as st) {n : Nat} (hn : (gArgs as).length ≤ n) : gLr ad b (gIn n as) ((lg_sl st ++ List.replicate (n - (lg_sl st).length) Slot.unset).toArray) := by
  have hl := gArgs_len h
  have he := lv_entry st (n := n) (by rw [hl]; exact hn)
  have hlen : (gIn n as).length = n := by unfold gIn; rw [List.length_append, List.length_replicate]; omega
  refine ⟨_, by rw [hlen]; exact he, fun i v hv hh => ?_⟩
  unfold gIn at hv
  by_cases hi : i < (gArgs as).length
  · rw [List.getElem?_append_left hi] at hv
    obtain ⟨w, h1, h2⟩ := gArgs_at h 0 i v hv hh
    rw [Nat.zero_add] at h1
    exact ⟨w, h1, h2⟩
  · rw [List.getElem?_append_right (by omega)] at hv
    obtain ⟨h1, h2⟩ := List.getElem?_eq_some_iff.mp hv
    rw [List.getElem_replicate] at h2
    subst h2
    cases hh
/-- which answer a method of a kind gives -/
def gRk (k : Nat) (r : Option FieldType) : Prop := match k with
  | 0 => r = none
  | 1 => r = some .int
  | 2 => r = some .boolean
  | 3 => r = some .long
  | 4 => (∃ n, r = some (.object n)) ∨ ∃ t, r = some (.array t)
  | _ => False
section GK
variable {p : Program} {l : Launch} {e : Env} {s : State} {m : MethodId} {args : Array Value} {below : List Frame} {meth : Method} {c : Code}
variable {D : va_G} {cl : List vw_C} {cA : Nat → ClassId} {A : Nat → Prop} {b : Nat} {E : String} {F : Nat → List Nat} {T : Nat → GM} {Yf : Nat → MethodName} {Bf : Nat → ByteArray} {Rf : Nat → Option FieldType} {good : List Jvm.Cond} {nests : List (String × Nat × MethodName × String)}
def gRm (T : Nat → GM) (d j : Nat) : Room := { frames := d + 1, cells := (T j).2.2.2.2.1, slots := (T j).2.2.2.2.2.1, locals := 64 * d + 100 }
/-- what the tables must say of a method -/
def gMok (T : Nat → GM) (F : Nat → List Nat) (Yf : Nat → MethodName) (Bf : Nat → ByteArray) (Rf : Nat → Option FieldType) (cl : List vw_C) (E : String) (nests : List (String × Nat × MethodName × String)) (good : List Jvm.Cond) (j : Nat) : Prop :=
  plainName (Yf j).cls = true ∧ gRk (T j).2.2.2.1 (Rf j) ∧ ∀ pc i x y, gAt (T j).2.1 pc = some (i, x, y) → gRow T F Yf Bf Rf cl E nests good (Yf j).cls (decide ((Yf j).name = "<init>")) (Bf j) pc i x y
theorem gG_nil {call : GCall} {N : Int} {X : Int → Int} {M : GM} {Q : GQ} {pc : Nat} {L S : List GV} {sh : SH} {μ : MU} {mc ms : Nat} (hM : M.2.1 = []) (h : gG T F call N X M Q pc L S sh μ mc ms) : False := by
  refine h (fun _ _ _ _ _ _ _ => False) fun P0 pc L S sh μ mc ms _ hs => ?_
  unfold gStep at hs
  rw [hM] at hs
  exact hs
theorem gPost.mk {ad0 ad : List Nat} {Q : GQ} {v : Option GV} {w : Option Value} {sh : SH} {μ : MU} {ws : va_W} {H : Heap} {locs : List Loc} {u t : State} (hq : Q v sh μ) (hv : gVo ad b v w) (hW : gWr cA ad0 ad b sh μ ws) (hP : va_P D cl ws H) (hD : va_D A ws) (hS : va_S A u.heap H locs) (ht : t.heap = H) : gPost D cl cA A b ad0 Q args u (.returned w) t :=
  ⟨⟨v, sh, μ, ad, ws, w, rfl, hv, hq, hW, by rw [ht]; exact hP, hD⟩, hS.F ht⟩
set_option maxHeartbeats 4000000 in
theorem g_contract {NN : Int} {XX : Int → Int} (har : ∀ w ∈ ([.arrayClass .int, .arrayClass .boolean, .arrayClass .char] : List Jvm.Cond), w ∈ good) (hgood : ∀ w ∈ good, goodWord w = true) (hml : ∀ j, (T j).2.2.1 ≤ 45) (hall : ∀ j, gMok T F Yf Bf Rf cl E nests good j ∨ (T j).2.1 = []) :
    ∀ d, gCt l T Yf (gWs T Yf Bf Rf good) (gRm T d) D cl cA E nests A b NN XX (gCall T F NN XX d) := by
  intro d
  induction d with
  | zero => intro j as sh μ Q h; exact h.elim
  | succ d ih =>
    intro j as sh μ Q h ad ws st hst hWr
    obtain ⟨hq, hG⟩ := gIs_t h
    have hlen := Nat.le_of_ble_eq_true hq
    obtain ⟨hpl, hrk, hrow⟩ : gMok T F Yf Bf Rf cl E nests good j := (hall j).elim id (fun hM => (gG_nil hM hG).elim)
    refine Met.ofW (cc := Bf j) (maxL := (T j).2.2.1) (ret := Rf j) hpl rfl ?_
    intro p e s m args below meth c s₁ B hmaxl hv
    obtain ⟨rfl, hP, hD, hK, hA, hZ⟩ := hv
    have hx := B.exec
    have hb := B.bytes
    have hr := B.returns
    have hts0 := atoms_spec (ws := gWs T Yf Bf Rf good j) B.pre
    have hts : ∀ w ∈ good, w.before st.toArray s = true := fun w hw => hts0 w (List.mem_cons_of_mem _ hw)
    have hown : s.vm.findClass (Yf j).cls = some m.cls := findClass_of_methodNamed B.named
    have hlocks := B.notSynchronized
    have hnm : meth.name = (Yf j).name := (name_of_methodNamed B.named B.method).1
    rw [lg_entry_eq]
    have hS : va_S A s.heap s.heap [] := va_S.rf
    have hL := gLr.entry hst hlen
    have hgl : (gIn (T j).2.2.1 as).length = (T j).2.2.1 := by unfold gIn; rw [List.length_append, List.length_replicate]; omega
    refine g_sound (Q := Q) (M := T j) (T := T) (F := F) (Yf := Yf) (Bf := Bf) (Rf := Rf) (good := good) (rm := gRm T d) (a0 := ad) (MC := (T j).2.2.2.2.1) (MS := (T j).2.2.2.2.2.1) (R := gRm T (d + 1) j) (ini := decide ((Yf j).name = "<init>")) hx hb hts hown hK hA (Nat.le_refl _) (Nat.le_refl _) (show 1 ≤ d + 1 + 1 by omega) (show 40 ≤ 64 * (d + 1) + 100 by omega) har (fun w hw => ⟨hw, hgood w hw⟩) (fun j' => ⟨rfl, rfl, Nat.le_refl _, ?_⟩) ih hrow (fun hi => by rw [hnm]; exact of_decide_eq_true hi) hZ ?_ 0 _ [] sh μ _ _ hG ad _ [] ws s.heap [] 0 0 (hmaxl.trans hgl.symm) hL trivial hWr hP hD hS (by omega) (by omega)
    · have := hml j'
      show 8 + ((T j').2.2.1 + 11) + (64 * d + 100) ≤ 64 * (d + 1) + 100
      omega
    · intro i v w sh' μ' ad' ls' ws' H' locs' cells' slots' pc' hdg hrt hQ hvo hW' hP' hD' hS' hc1 hc2
      refine W.widen hc1 hc2 ?_
      have hf : ∀ q ∈ locs', A q.base := hS'.2.2
      cases i with
      | ireturn =>
        cases v with
        | none => exact False.elim hrt
        | some v =>
          cases w with
          | none => exact False.elim hvo
          | some w =>
            rcases v with n | k | n | k
            · have hvo2 : w = .int (Int32.ofInt n) ∧ gOk n := hvo
              rw [hvo2.1] at hvo ⊢
              rcases hrt with hk | ⟨hk, hn⟩
              · rw [hk] at hrk
                exact W.iret hx hb (by rw [hr]; exact hrk) (fun t ht _ => gPost.mk hQ hvo hW' hP' hD' hS' ht) hf hdg hlocks
              · rw [hk] at hrk
                exact W.zret (ty := .boolean) hx hb (by rw [hr]; exact hrk) (by rcases hn with rfl | rfl <;> rfl) (fun t ht _ => gPost.mk hQ hvo hW' hP' hD' hS' ht) hf hdg hlocks
            · exact False.elim hrt
            · exact False.elim hrt
            · exact False.elim hrt
      | lreturn =>
        cases v with
        | none => exact False.elim hrt
        | some v =>
          cases w with
          | none => exact False.elim hvo
          | some w =>
            rcases v with n | k | n | k
            · exact False.elim hrt
            · exact False.elim hrt
            · have hw : w = .long (Int64.ofInt n) := hvo
              subst hw
              have hk : (T j).2.2.2.1 = 3 := hrt
              rw [hk] at hrk
              exact W.lret hx hb (by rw [hr]; exact hrk) (fun t ht _ => gPost.mk hQ hvo hW' hP' hD' hS' ht) hf hdg hlocks
            · exact False.elim hrt
      | areturn =>
        cases v with
        | none => exact False.elim hrt
        | some v =>
          cases w with
          | none => exact False.elim hvo
          | some w =>
            have hrt : gTr v = true ∧ (T j).2.2.2.1 = 4 := hrt
            have hk := hrt.2
            rw [hk] at hrk
            have hw : w = .null ∨ ∃ a, w = .ref a := gTr_of hrt.1 hvo
            rcases hrk with ⟨n, h1⟩ | ⟨n, h1⟩
            · exact W.aret hx hb (by rw [hr]; exact h1) (Or.inl ⟨n, rfl⟩) hw (fun t ht _ => gPost.mk hQ hvo hW' hP' hD' hS' ht) hf hdg hlocks
            · exact W.aret hx hb (by rw [hr]; exact h1) (Or.inr ⟨n, rfl⟩) hw (fun t ht _ => gPost.mk hQ hvo hW' hP' hD' hS' ht) hf hdg hlocks
      | return_ =>
        cases v with
        | some v => exact False.elim hrt
        | none =>
          cases w with
          | some w => exact False.elim hvo
          | none =>
            have hk : (T j).2.2.2.1 = 0 := hrt
            rw [hk] at hrk
            exact W.vret hx hb (by rw [hr]; exact hrk) (fun t ht _ => gPost.mk hQ hvo hW' hP' hD' hS' ht) hf hdg hlocks
      | _ => exact False.elim hrt
end GK
