variable {sN : Int} {sX : Int → Int}
/-! sifting: the pure side -/
theorem sw_off {μ : MU} {s : GO} (hG : iG μ) (hL : iL μ) (hN : iN μ) (hO : iO μ s.1 s.2) {y p : Int} (y0 : 0 ≤ y) (y1 : y < (μ 9 1)) (p0 : 0 ≤ p) (p1 : (μ 23) y + p + 1 < (μ 23) (y + 1)) : (∀ v : Int, 0 ≤ v → v < (μ 19 2) → (μ 21) v ≠ y → (sw ((μ 23) y) s p).2 v = s.2 v) ∧ ∀ k : Int, ¬ ((μ 23) y ≤ k ∧ k < (μ 23) (y + 1)) → (sw ((μ 23) y) s p).1 k = s.1 k := by
  have a1 := hO.1 y y0 y1 ((μ 23) y + p) (by omega) (by omega)
  have a2 := hO.1 y y0 y1 ((μ 23) y + p + 1) (by omega) (by omega)
  refine ⟨fun v v0 v1 hv => ?_, fun k hk => ?_⟩
  · show swP _ _ _ _ v = _
    unfold swP
    rw [if_neg (fun e => hv (by rw [e]; exact a1.2.1)), if_neg (fun e => hv (by rw [e]; exact a2.2.1))]
  · show swS _ _ k = _
    unfold swS
    rw [if_neg (by omega), if_neg (by omega)]
theorem gDn_off {μ : MU} {s : GO} (hG : iG μ) (hL : iL μ) (hN : iN μ) (hO : iO μ s.1 s.2) {y a : Int} (y0 : 0 ≤ y) (y1 : y < (μ 9 1)) (a1 : (μ 23) y + a < (μ 23) (y + 1)) : ∀ k : Nat, (k : Int) ≤ a → (∀ v : Int, 0 ≤ v → v < (μ 19 2) → (μ 21) v ≠ y → (gDn ((μ 23) y) s a k).2 v = s.2 v) ∧ ∀ j : Int, ¬ ((μ 23) y ≤ j ∧ j < (μ 23) (y + 1)) → (gDn ((μ 23) y) s a k).1 j = s.1 j := by
  intro k
  induction k with
  | zero => intro _; exact ⟨fun _ _ _ _ => rfl, fun _ _ => rfl⟩
  | succ k ih =>
    intro hk
    have i := ih (by omega)
    have o := gDn_o hG hL hN hO y0 y1 a1 k (by omega)
    have w := sw_off hG hL hN o.1 y0 y1 (p := a - 1 - k) (by omega) (by omega)
    exact ⟨fun v v0 v1 hv => (w.1 v v0 v1 hv).trans (i.1 v v0 v1 hv), fun j hj => (w.2 j hj).trans (i.2 j hj)⟩
theorem gUw_off {μ : MU} {s : GO} (hG : iG μ) (hL : iL μ) (hN : iN μ) (hO : iO μ s.1 s.2) {y a : Int} (y0 : 0 ≤ y) (y1 : y < (μ 9 1)) (a0 : 0 ≤ a) : ∀ k : Nat, (μ 23) y + (a + k) < (μ 23) (y + 1) → (∀ v : Int, 0 ≤ v → v < (μ 19 2) → (μ 21) v ≠ y → (gUw ((μ 23) y) s a k).2 v = s.2 v) ∧ ∀ j : Int, ¬ ((μ 23) y ≤ j ∧ j < (μ 23) (y + 1)) → (gUw ((μ 23) y) s a k).1 j = s.1 j := by
  intro k
  induction k with
  | zero => intro _; exact ⟨fun _ _ _ _ => rfl, fun _ _ => rfl⟩
  | succ k ih =>
    intro hk
    have i := ih (by omega)
    have o := gUw_o hG hL hN hO y0 y1 a0 k (by omega)
    have w := sw_off hG hL hN o.1 y0 y1 (p := a + k) (by omega) (by omega)
    exact ⟨fun v v0 v1 hv => (w.1 v v0 v1 hv).trans (i.1 v v0 v1 hv), fun j hj => (w.2 j hj).trans (i.2 j hj)⟩
/-- going up and down again -/
theorem gUD (st : Int) (t : GO) (m : Nat) : ∀ k : Nat, k ≤ m → (gDn st (gUw st t 0 m) m k).1 = (gUw st t 0 (m - k)).1 := by
  intro k
  induction k with
  | zero => intro _; rfl
  | succ k ih =>
    intro h
    show swS (gDn st (gUw st t 0 m) m k).1 (st + ((m : Int) - 1 - k)) = _
    rw [ih (by omega), show m - k = (m - (k + 1)) + 1 by omega]
    show swS (swS (gUw st t 0 (m - (k + 1))).1 (st + (0 + ((m - (k + 1) : Nat) : Int)))) _ = _
    rw [show st + ((m : Int) - 1 - k) = st + (0 + ((m - (k + 1) : Nat) : Int)) by omega]
    exact swS_2 _ _
theorem gDU (st : Int) (s : GO) (a : Nat) : ∀ k : Nat, k ≤ a → (gUw st (gDn st s a a) 0 k).1 = (gDn st s a (a - k)).1 := by
  intro k
  induction k with
  | zero => intro _; rfl
  | succ k ih =>
    intro h
    show swS (gUw st (gDn st s a a) 0 k).1 (st + (0 + (k : Int))) = _
    rw [ih (by omega), show a - k = (a - (k + 1)) + 1 by omega]
    show swS (swS (gDn st s a (a - (k + 1))).1 (st + ((a : Int) - 1 - ((a - (k + 1) : Nat) : Int)))) _ = _
    rw [show st + ((a : Int) - 1 - ((a - (k + 1) : Nat) : Int)) = st + (0 + (k : Int)) by omega]
    exact swS_2 _ _
/-- the vertex at the place p, the others as they were -/
def sftP (μ : MU) (s : GO) (v : Int) (p : Nat) : GO := gUw ((μ 23) ((μ 21) v)) (gDn ((μ 23) ((μ 21) v)) s (s.2 v) (s.2 v).toNat) 0 p
def sftC (μ : MU) (s : GO) (v : Int) (p : Nat) : Int := xCb μ (sftP μ s v p).2 ((μ 21) v - 1) + xCb μ (sftP μ s v p).2 ((μ 21) v)
def hBest (μ : MU) (s : GO) (v b : Int) : Prop := (0 ≤ b ∧ b < (μ 23) ((μ 21) v + 1) - (μ 23) ((μ 21) v)) ∧ iC μ (sftP μ s v b.toNat).1 ((μ 21) v) ∧ ∀ p : Int, 0 ≤ p → p < (μ 23) ((μ 21) v + 1) - (μ 23) ((μ 21) v) → iC μ (sftP μ s v p.toNat).1 ((μ 21) v) → sftC μ s v b.toNat ≤ sftC μ s v p.toNat ∧ (p < b → sftC μ s v b.toNat < sftC μ s v p.toNat)
theorem hBest_u {μ : MU} {s : GO} {v b c : Int} (h : hBest μ s v b) (h' : hBest μ s v c) : b = c := by
  have x := h.2.2 c h'.1.1 h'.1.2 h'.2.1
  have y := h'.2.2 b h.1.1 h.1.2 h.2.1
  by_cases c1 : b < c
  · have := y.2 c1; omega
  · by_cases c2 : c < b
    · have := x.2 c2; omega
    · omega
noncomputable def sftB (μ : MU) (s : GO) (v : Int) : Int := Classical.epsilon (fun b => hBest μ s v b)
theorem sftB_e {μ : MU} {s : GO} {v b : Int} (h : hBest μ s v b) : sftB μ s v = b := hBest_u (Classical.epsilon_spec (p := fun b => hBest μ s v b) ⟨b, h⟩) h
/-- a vertex is sifted -/
noncomputable def sft (μ : MU) (s : GO) (v : Int) : GO := gDn ((μ 23) ((μ 21) v)) (sftP μ s v ((μ 23) ((μ 21) v + 1) - (μ 23) ((μ 21) v) - 1).toNat) ((μ 23) ((μ 21) v + 1) - (μ 23) ((μ 21) v) - 1) ((μ 23) ((μ 21) v + 1) - (μ 23) ((μ 21) v) - 1 - sftB μ s v).toNat
theorem sftP_c {μ ν : MU} (h : hSt μ ν) : sftP ν = sftP μ := by
  funext s v p
  unfold sftP
  rw [h 21 (by decide) (by decide), h 23 (by decide) (by decide)]
theorem sftC_c {μ ν : MU} (h : hSt μ ν) : sftC ν = sftC μ := by
  funext s v p
  unfold sftC
  rw [h 21 (by decide) (by decide), xCb_c h, sftP_c h]
theorem iC_e {μ ν : MU} (h : hSt μ ν) : iC ν = iC μ := by
  funext sq y
  exact propext ⟨iC_c h.sy, iC_c h⟩
theorem hBest_c {μ ν : MU} (h : hSt μ ν) : hBest ν = hBest μ := by
  funext s v b
  unfold hBest
  rw [sftP_c h, sftC_c h, iC_e h, h 21 (by decide) (by decide), h 23 (by decide) (by decide)]
theorem sft_c {μ ν : MU} (h : hSt μ ν) : sft ν = sft μ := by
  funext s v
  unfold sft sftB
  rw [sftP_c h, hBest_c h, h 21 (by decide) (by decide), h 23 (by decide) (by decide)]
/-- all that holds of the orders in between -/
theorem sftP_o {μ : MU} {s : GO} {v : Int} (hG : iG μ) (hL : iL μ) (hN : iN μ) (hO : iO μ s.1 s.2) (v0 : 0 ≤ v) (v1 : v < (μ 19 2)) : ∀ p : Nat, (μ 23) ((μ 21) v) + p < (μ 23) ((μ 21) v + 1) → iO μ (sftP μ s v p).1 (sftP μ s v p).2 ∧ (sftP μ s v p).1 ((μ 23) ((μ 21) v) + p) = v ∧ (sftP μ s v p).2 v = p ∧ (∀ w : Int, 0 ≤ w → w < (μ 19 2) → (μ 21) w ≠ (μ 21) v → (sftP μ s v p).2 w = s.2 w) ∧ ∀ j : Int, ¬ ((μ 23) ((μ 21) v) ≤ j ∧ j < (μ 23) ((μ 21) v + 1)) → (sftP μ s v p).1 j = s.1 j := by
  intro p hp
  obtain ⟨⟨y0, y1⟩, ⟨a0, a1⟩, ⟨b0, b1, b2⟩, b3⟩ := iO_v hG hL hN hO v0 v1
  have d := gDn_o hG hL hN hO y0 y1 b1 (s.2 v).toNat (by omega)
  have d2 := gDn_off hG hL hN hO y0 y1 b1 (s.2 v).toNat (by omega)
  have u := gUw_o hG hL hN d.1 y0 y1 (a := 0) (by omega) p (by omega)
  have u2 := gUw_off hG hL hN d.1 y0 y1 (a := 0) (by omega) p (by omega)
  have e : (sftP μ s v p).1 ((μ 23) ((μ 21) v) + p) = v := by
    have h1 := u.2
    have h2 := d.2
    rw [show s.2 v - ((s.2 v).toNat : Int) = 0 by omega, b3] at h2
    rw [h2, show (0 : Int) + (p : Int) = p by omega] at h1
    exact h1
  exact ⟨u.1, e, iO_pl u.1 y0 y1 (by omega) (by omega) e, fun w w0 w1 hw => (u2.1 w w0 w1 hw).trans (d2.1 w w0 w1 hw), fun j hj => (u2.2 j hj).trans (d2.2 j hj)⟩
theorem sftP_a {μ : MU} {s : GO} {v : Int} (hG : iG μ) (hL : iL μ) (hN : iN μ) (hO : iO μ s.1 s.2) (v0 : 0 ≤ v) (v1 : v < (μ 19 2)) : (sftP μ s v (s.2 v).toNat).1 = s.1 := by
  have a0 := (iO_v hG hL hN hO v0 v1).2.1.1
  unfold sftP
  have := gDU ((μ 23) ((μ 21) v)) s (s.2 v).toNat (s.2 v).toNat (Nat.le_refl _)
  rw [show ((s.2 v).toNat : Int) = s.2 v by omega] at this
  rw [this, show (s.2 v).toNat - (s.2 v).toNat = 0 by omega]
  rfl
theorem sft_s {μ : MU} {s : GO} {v b : Int} (h : hBest μ s v b) : (sft μ s v).1 = (sftP μ s v b.toNat).1 := by
  unfold sft
  rw [sftB_e h]
  have hb := h.1
  have := gUD ((μ 23) ((μ 21) v)) (gDn ((μ 23) ((μ 21) v)) s (s.2 v) (s.2 v).toNat) ((μ 23) ((μ 21) v + 1) - (μ 23) ((μ 21) v) - 1).toNat ((μ 23) ((μ 21) v + 1) - (μ 23) ((μ 21) v) - 1 - b).toNat (by omega)
  rw [show (((μ 23) ((μ 21) v + 1) - (μ 23) ((μ 21) v) - 1).toNat : Int) = (μ 23) ((μ 21) v + 1) - (μ 23) ((μ 21) v) - 1 by omega, show ((μ 23) ((μ 21) v + 1) - (μ 23) ((μ 21) v) - 1).toNat - ((μ 23) ((μ 21) v + 1) - (μ 23) ((μ 21) v) - 1 - b).toNat = b.toNat by omega] at this
  exact this
theorem sft_o {μ : MU} {s : GO} {v b : Int} (hG : iG μ) (hL : iL μ) (hN : iN μ) (hO : iOC μ s) (v0 : 0 ≤ v) (v1 : v < (μ 19 2)) (h : hBest μ s v b) : iOC μ (sft μ s v) := by
  obtain ⟨⟨y0, y1⟩, ⟨a0, a1⟩, ⟨b0, b1, b2⟩, b3⟩ := iO_v hG hL hN hO.1 v0 v1
  have hb := h.1
  have p := sftP_o hG hL hN hO.1 v0 v1 ((μ 23) ((μ 21) v + 1) - (μ 23) ((μ 21) v) - 1).toNat (by omega)
  have q := sftP_o hG hL hN hO.1 v0 v1 b.toNat (by omega)
  refine ⟨?_, fun z z0 z1 => ?_⟩
  · unfold sft
    rw [sftB_e h]
    exact (gDn_o hG hL hN p.1 y0 y1 (by omega) _ (by omega)).1
  · rw [sft_s h]
    by_cases hz : z = (μ 21) v
    · subst hz; exact h.2.1
    · have out : ∀ k : Int, (μ 23) z ≤ k → k < (μ 23) (z + 1) → ¬ ((μ 23) ((μ 21) v) ≤ k ∧ k < (μ 23) ((μ 21) v + 1)) := fun k k0 k1 hh => by
        by_cases c : z < (μ 21) v
        · have := iN_mon hG hL hN (y := z + 1) (z := (μ 21) v) (by omega) (by omega) (by omega); omega
        · have := iN_mon hG hL hN (y := (μ 21) v + 1) (z := z) (by omega) (by omega) (by omega); omega
      intro i j k i0 i1 i2 i3
      rw [q.2.2.2.2 i (out i i0 (by omega)), q.2.2.2.2 j (out j (by omega) (by omega)), q.2.2.2.2 k (out k (by omega) i3)]
      exact hO.2 z z0 z1 i j k i0 i1 i2 i3
/-- other layers' crossings -/
theorem xCb_e {μ : MU} {pl pl' : Int → Int} (hG : iG μ) (hL : iL μ) (hN : iN μ) {z : Int} (h : ∀ w : Int, 0 ≤ w → w < (μ 19 2) → ((μ 21) w = z ∨ (μ 21) w = z + 1) → pl w = pl' w) : xCb μ pl z = xCb μ pl' z := by
  have G := hG.1
  have hs : ∀ e : Int, 0 ≤ e → e < (μ 1 1) → ((μ 14) e ≤ z ∧ z < (μ 15) e) → xSpot μ pl e z = xSpot μ pl' e z ∧ xSpot μ pl e (z + 1) = xSpot μ pl' e (z + 1) := fun e e0 e1 he => by
    have a := xOn_v hG hL hN e0 e1 (y := z) he.1 (by omega)
    have b := xOn_v hG hL hN e0 e1 (y := z + 1) (by omega) (by omega)
    unfold xSpot
    rw [h _ a.1.1 a.1.2 (Or.inl a.2.1), h _ b.1.1 b.1.2 (Or.inr b.2.1)]
    exact ⟨rfl, rfl⟩
  refine gSum_c _ (fun e e0 e1 => gSum_c _ (fun o o0 o1 => ?_))
  unfold xX
  by_cases c1 : (μ 14) e ≤ z ∧ z < (μ 15) e
  · by_cases c2 : (μ 14) o ≤ z ∧ z < (μ 15) o
    · have x1 := hs e e0 (by omega) c1
      have x2 := hs o o0 (by omega) c2
      rw [x1.1, x1.2, x2.1, x2.2]
    · rw [if_neg (fun hh => c2 hh.2.1), if_neg (fun hh => c2 hh.2.1)]
  · rw [if_neg (fun hh => c1 hh.1), if_neg (fun hh => c1 hh.1)]
theorem xCb_0 {μ : MU} {pl : Int → Int} (hG : iG μ) (hL : iL μ) {z : Int} (h : z < 0 ∨ (μ 9 1) - 1 ≤ z) : xCb μ pl z = 0 := by
  have G := hG.1
  have h1 : xCb μ pl z = gSum (fun _ => 0) (μ 1 1).toNat := gSum_c _ (fun e e0 e1 => by
    have E := (iE hG hL e0 (by omega)).2.2.1
    have h2 : gSum (fun o => xX μ pl z e o) e.toNat = gSum (fun _ => 0) e.toNat := gSum_c _ (fun o o0 o1 => if_neg (fun hh => by have := hh.1; omega))
    have h3 := gSum_b (f := fun _ => 0) (a := 0) (b := 0) e.toNat (fun _ _ _ => by omega)
    omega)
  have h3 := gSum_b (f := fun _ => 0) (a := 0) (b := 0) (μ 1 1).toNat (fun _ _ _ => by omega)
  omega
theorem gSum_a (f g : Int → Int) (n : Nat) : gSum (fun i => f i + g i) n = gSum f n + gSum g n := by
  induction n with
  | zero => rfl
  | succ n ih => rw [gSum, gSum, gSum, ih]; omega
theorem gSum_p (a x : Int) (n : Nat) : gSum (fun i => if i = a then x else 0) n = if 0 ≤ a ∧ a < n then x else 0 := by
  induction n with
  | zero => rw [if_neg (by omega)]; rfl
  | succ n ih =>
    rw [gSum, ih]
    by_cases c : (n : Int) = a
    · rw [if_pos c, if_neg (by omega), if_pos (by omega)]; omega
    · rw [if_neg c]
      by_cases d : 0 ≤ a ∧ a < n
      · rw [if_pos d, if_pos (by omega)]; omega
      · rw [if_neg d, if_neg (by omega)]; omega
theorem sftC_a {μ : MU} {s : GO} {v : Int} (hG : iG μ) (hL : iL μ) (hN : iN μ) (hO : iO μ s.1 s.2) (v0 : 0 ≤ v) (v1 : v < (μ 19 2)) (p : Nat) (hp : (μ 23) ((μ 21) v) + p < (μ 23) ((μ 21) v + 1)) : xCa μ (sftP μ s v p).2 = sftC μ s v p + gSum (fun z => if z = (μ 21) v - 1 ∨ z = (μ 21) v then 0 else xCb μ s.2 z) ((μ 9 1) - 1).toNat := by
  have o := sftP_o hG hL hN hO v0 v1 p hp
  have y := iN_lay hG hL hN v0 v1
  unfold sftC
  generalize (μ 21) v = l at *
  have h1 : xCa μ (sftP μ s v p).2 = gSum (fun z => (if z = l - 1 then xCb μ (sftP μ s v p).2 (l - 1) else 0) + ((if z = l then xCb μ (sftP μ s v p).2 l else 0) + (if z = l - 1 ∨ z = l then 0 else xCb μ s.2 z))) ((μ 9 1) - 1).toNat := gSum_c _ (fun z z0 z1 => by
    by_cases c1 : z = l - 1
    · subst c1
      rw [if_pos rfl, if_neg (by omega), if_pos (Or.inl rfl)]; omega
    · by_cases c2 : z = l
      · subst c2
        rw [if_neg c1, if_pos rfl, if_pos (Or.inr rfl)]; omega
      · rw [if_neg c1, if_neg c2, if_neg (by omega), Int.zero_add, Int.zero_add]
        exact xCb_e hG hL hN (fun w w0 w1 hw => o.2.2.2.1 w w0 w1 (by omega)))
  rw [h1, gSum_a, gSum_a, gSum_p, gSum_p]
  have z1 : (if 0 ≤ l - 1 ∧ l - 1 < (((μ 9 1) - 1).toNat : Int) then xCb μ (sftP μ s v p).2 (l - 1) else 0) = xCb μ (sftP μ s v p).2 (l - 1) := by
    by_cases c : 0 ≤ l - 1 ∧ l - 1 < (((μ 9 1) - 1).toNat : Int)
    · rw [if_pos c]
    · rw [if_neg c, xCb_0 hG hL (by omega)]
  have z2 : (if 0 ≤ l ∧ l < (((μ 9 1) - 1).toNat : Int) then xCb μ (sftP μ s v p).2 l else 0) = xCb μ (sftP μ s v p).2 l := by
    by_cases c : 0 ≤ l ∧ l < (((μ 9 1) - 1).toNat : Int)
    · rw [if_pos c]
    · rw [if_neg c, xCb_0 hG hL (by omega)]
  rw [z1, z2]
  omega
