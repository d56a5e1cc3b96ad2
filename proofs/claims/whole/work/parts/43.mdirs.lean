/-! the model finds the directions -/
def dKeep (n m : Int) (src : Int → Int) (a : Int) (s q : GD) : Prop := (∀ i : Int, 0 ≤ i → i < n → gUp s.1 a 1 i ≠ 0 → q.1 i = gUp s.1 a 1 i) ∧ (∀ i : Int, 0 ≤ i → i < n → gUp s.1 a 1 i = 0 → q.1 i = 0 ∨ q.1 i = 2) ∧ ∀ e : Int, 0 ≤ e → e < m → s.1 (src e) ≠ 0 → q.2 e = s.2 e
theorem dKeep.cn {n m : Int} {src : Int → Int} {a : Int} {s q : GD} (h : dKeep n m src a s q) : gCn q.1 0 n ≤ gCn (gUp s.1 a 1) 0 n := gCn_l (fun i i0 i1 hi => by
  by_cases hd : gUp s.1 a 1 i = 0
  · exact hd
  · have := h.1 i i0 i1 hd
    omega)
theorem dfs_k {n m : Int} {src tgt : Int → Int} (hm : 0 ≤ m) (hE : dE n m src tgt) (f : Nat) (a : Int) (s : GD) (fin : Int → Int) (a0 : 0 ≤ a) (a1 : a < n) (hs : s.1 a = 0) (hc : gCn s.1 0 n ≤ f + 1) (hI : dInv n m src tgt s fin) : ∀ k : Nat, k ≤ m.toNat → (∃ fin, dInv n m src tgt (gFold (dStep m.toNat src tgt f a) k (gUp s.1 a 1, s.2)) fin) ∧ dScan m src tgt a k (gFold (dStep m.toNat src tgt f a) k (gUp s.1 a 1, s.2)) ∧ dKeep n m src a s (gFold (dStep m.toNat src tgt f a) k (gUp s.1 a 1, s.2)) := by
  obtain ⟨m1, m2, m3⟩ := dMark hE a0 a1 hs hI
  refine gFold_i (g := dStep m.toNat src tgt f a) (s := (gUp s.1 a 1, s.2)) (m := m.toNat) (fun k q => (∃ fin, dInv n m src tgt q fin) ∧ dScan m src tgt a k q ∧ dKeep n m src a s q) ⟨⟨_, m1⟩, m2, fun _ _ _ _ => rfl, fun _ _ _ h => Or.inl h, fun _ _ _ _ => rfl⟩ (fun k q hk hP => ?_)
  obtain ⟨⟨fin', k1⟩, k2, k6⟩ := hP
  have kc := k6.cn
  obtain ⟨k3, k4, k5⟩ := k6
  show (∃ fin, dInv n m src tgt (dStep m.toNat src tgt f a k q) fin) ∧ dScan m src tgt a ((k : Int) + 1) (dStep m.toNat src tgt f a k q) ∧ _
  have ek := hE k (by omega) (by omega)
  unfold dStep
  by_cases h1 : src k = a
  · rw [if_pos h1]
    by_cases h2 : q.1 (tgt k) = 0
    · rw [if_pos h2]
      have r := dfs_ok hm hE f (tgt k) q fin' ek.2.1.1 ek.2.1.2 h2 (by omega) k1
      refine ⟨r.2.2, dScan_0 hE a0 a1 (by omega) (by omega) k2 h1 r.1 r.2.1, fun i i0 i1 hi => ?_, fun i i0 i1 hi => ?_, fun e e0 e1 he => ?_⟩
      · have := k3 i i0 i1 hi
        rw [r.1.1 i i0 i1 (by omega)]; exact this
      · rcases k4 i i0 i1 hi with c | c
        · exact r.1.2.1 i i0 i1 c
        · exact Or.inr (by rw [r.1.1 i i0 i1 (by omega)]; exact c)
      · have ee := (hE e e0 e1).1
        have hd : src e ≠ a := fun hd => he (by rw [hd]; exact hs)
        have := k3 _ ee.1 ee.2 (by rw [gUp_n hd]; exact he)
        rw [gUp_n hd] at this
        rw [r.1.2.2 e e0 e1 (by rw [this]; exact he)]; exact k5 e e0 e1 he
    · rw [if_neg h2]
      by_cases h3 : q.1 (tgt k) = 1
      · rw [if_pos h3]
        refine ⟨⟨_, dInv_1 k2.1 h1 k1⟩, dScan_1 (n := n) (by omega) (by omega) k2 h1 h3, k3, k4, fun e e0 e1 he => ?_⟩
        have hd : e ≠ k := fun hd => he (by rw [hd, h1]; exact hs)
        show gUp q.2 k 1 e = _
        rw [gUp_n hd]; exact k5 e e0 e1 he
      · rw [if_neg h3]
        have h4 : q.1 (tgt k) = 2 := by
          have := k1.1 _ ek.2.1.1 ek.2.1.2
          omega
        exact ⟨⟨_, k1⟩, dScan_0 hE a0 a1 (by omega) (by omega) k2 h1 dRel.rf h4, k3, k4, k5⟩
  · rw [if_neg h1]
    exact ⟨⟨_, k1⟩, dScan_n k2 h1, k3, k4, k5⟩
def dRes (μ ν ρ : MU) (s r : GD) (dp : Int) : Prop := (∀ i : Int, 0 ≤ i → i < (μ 1 0) → (ρ 70) i = r.1 i) ∧ (∀ e : Int, 0 ≤ e → e < (μ 1 1) → s.1 ((μ 4) e) = 0 → r.1 ((μ 4) e) = 2 → (ρ 66) e = r.2 e) ∧ (∀ e : Int, 0 ≤ e → e < (μ 1 1) → s.1 ((μ 4) e) ≠ 0 → (ρ 66) e = (ν 66) e) ∧ (∀ i : Int, 0 ≤ i → i < (μ 1 0) → s.1 i ≠ 0 → (ρ 69) i = (ν 69) i) ∧ ∀ j : Int, 0 ≤ j → j < dp - 1 → (ρ 68) j = (ν 68) j
/-- between two edges of the node a -/
def dMid (μ ν ρ : MU) (s q : GD) (a k dp : Int) : Prop := (∀ i : Int, 0 ≤ i → i < (μ 1 0) → (ρ 70) i = q.1 i) ∧ (ρ 69) a = k ∧ (∀ e : Int, 0 ≤ e → e < (μ 1 1) → s.1 ((μ 4) e) = 0 → ((μ 4) e = a ∧ e < k) ∨ ((μ 4) e ≠ a ∧ q.1 ((μ 4) e) = 2) → (ρ 66) e = q.2 e) ∧ (∀ e : Int, 0 ≤ e → e < (μ 1 1) → s.1 ((μ 4) e) ≠ 0 → (ρ 66) e = (ν 66) e) ∧ (∀ i : Int, 0 ≤ i → i < (μ 1 0) → s.1 i ≠ 0 → (ρ 69) i = (ν 69) i) ∧ ∀ j : Int, 0 ≤ j → j < dp → (ρ 68) j = (ν 68) j
theorem dMid_s {μ ν ρ : MU} {s q r : GD} {a k dp w : Int} (hG : iG μ) (k0 : 0 ≤ k) (hs : s.1 a = 0) (h1 : (μ 4) k = a) (e1 : r.1 = q.1) (e2 : ∀ e : Int, e ≠ k → r.2 e = q.2 e) (e3 : r.2 k = w) (hm : dMid μ ν ρ s q a k dp) : dMid μ ν (gW (gW ρ 69 a (k + 1)) 66 k w) s r a (k + 1) dp := by
  obtain ⟨m1, m2, m3, m4, m5, m6⟩ := hm
  refine ⟨fun i i0 i1 => by rw [e1]; exact m1 i i0 i1, (gWe ρ 69 a (k + 1) : gW ρ 69 a (k + 1) 69 a = k + 1), fun e e0 e1' he hh => ?_, fun e e0 e1' he => ?_, fun i i0 i1 hi => ?_, m6⟩
  · show gW (gW ρ 69 a (k + 1)) 66 k w 66 e = _
    by_cases c : e = k
    · rw [c, e3]; exact gWe _ _ _ _
    · rw [gWn _ _ _ c, e2 e c]
      refine m3 e e0 e1' he ?_
      rcases hh with z | z
      · exact Or.inl ⟨z.1, by omega⟩
      · rw [e1] at z; exact Or.inr z
  · show gW (gW ρ 69 a (k + 1)) 66 k w 66 e = _
    rw [gWn _ _ _ (fun c => he (by rw [c, h1]; exact hs))]
    exact m4 e e0 e1' he
  · show gW ρ 69 a (k + 1) 69 i = _
    rw [gWn _ _ _ (fun c => hi (by rw [c]; exact hs))]
    exact m5 i i0 i1 hi
theorem dMid_n {μ ν ρ : MU} {s q : GD} {a k dp : Int} (hs : s.1 a = 0) (h1 : (μ 4) k ≠ a) (hm : dMid μ ν ρ s q a k dp) : dMid μ ν (gW ρ 69 a (k + 1)) s q a (k + 1) dp := by
  obtain ⟨m1, m2, m3, m4, m5, m6⟩ := hm
  refine ⟨m1, gWe _ _ _ _, fun e e0 e1' he hh => m3 e e0 e1' he ?_, m4, fun i i0 i1 hi => ?_, m6⟩
  · rcases hh with z | z
    · have : e ≠ k := fun c => h1 (c ▸ z.1)
      exact Or.inl ⟨z.1, by omega⟩
    · exact Or.inr z
  · show gW ρ 69 a (k + 1) 69 i = _
    rw [gWn _ _ _ (fun c => hi (by rw [c]; exact hs))]
    exact m5 i i0 i1 hi
theorem dMid_c {μ ν ρ ρ' : MU} {s q r : GD} {a k dp t : Int} (hG : iG μ) (k0 : 0 ≤ k) (k1 : k < (μ 1 1)) (a0 : 0 ≤ a) (a1 : a < (μ 1 0)) (hs : s.1 a = 0) (h1 : (μ 4) k = a) (ht : (μ 5) k = t) (hq : q.1 t = 0) (hqa : q.1 a = 1) (hq0 : q.2 k = 0) (F6 : dKeep (μ 1 0) (μ 1 1) (μ 4) a s q) (hr : dRel (μ 1 0) (μ 1 1) (μ 4) q r) (hm : dMid μ ν ρ s q a k dp) (hR : dRes μ (gW (gW (gW (gW (gW ρ 69 a (k + 1)) 66 k 0) 70 t 1) 69 t 0) 68 dp t) ρ' q r (dp + 1)) : dMid μ ν ρ' s r a (k + 1) dp := by
  obtain ⟨m1, m2, m3, m4, m5, m6⟩ := hm
  obtain ⟨r1, r2, r3, r4, r5⟩ := hR
  have g := hG.2.2 k k0 k1
  have w66 : ∀ e : Int, (gW (gW (gW (gW (gW ρ 69 a (k + 1)) 66 k 0) 70 t 1) 69 t 0) 68 dp t) 66 e = gUp (ρ 66) k 0 e := fun e => by
    show gW (gW ρ 69 a (k + 1)) 66 k 0 66 e = _
    rw [gW_up]
    rfl
  have w69 : ∀ i : Int, i ≠ t → (gW (gW (gW (gW (gW ρ 69 a (k + 1)) 66 k 0) 70 t 1) 69 t 0) 68 dp t) 69 i = gUp (ρ 69) a (k + 1) i := fun i hi => by
    show gW (gW (gW (gW ρ 69 a (k + 1)) 66 k 0) 70 t 1) 69 t 0 69 i = _
    rw [gWn _ _ _ hi]
    show gW ρ 69 a (k + 1) 69 i = _
    rw [gW_up]
  have w68 : ∀ j : Int, j ≠ dp → (gW (gW (gW (gW (gW ρ 69 a (k + 1)) 66 k 0) 70 t 1) 69 t 0) 68 dp t) 68 j = ρ 68 j := fun j hj => by
    rw [gWn _ _ _ hj]; rfl
  have keep : ∀ i : Int, 0 ≤ i → i < (μ 1 0) → s.1 i ≠ 0 → i ≠ a ∧ q.1 i = s.1 i := fun i i0 i1 hi => by
    have c : i ≠ a := fun c => hi (by rw [c]; exact hs)
    have := F6.1 i i0 i1 (by rw [gUp_n c]; exact hi)
    rw [gUp_n c] at this
    exact ⟨c, this⟩
  refine ⟨r1, ?_, fun e e0 e1 he hh => ?_, fun e e0 e1 he => ?_, fun i i0 i1 hi => ?_, fun j j0 j1 => ?_⟩
  · rw [r4 a a0 a1 (by omega), w69 a (by omega), gUp_e]
  · rcases hh with ⟨z1, z2⟩ | ⟨z1, z2⟩
    · rw [r3 e e0 e1 (by rw [z1]; omega), w66, hr.2.2 e e0 e1 (by rw [z1]; omega)]
      by_cases c : e = k
      · rw [c, gUp_e, hq0]
      · rw [gUp_n c]; exact m3 e e0 e1 he (Or.inl ⟨z1, by omega⟩)
    · by_cases c : q.1 ((μ 4) e) = 0
      · exact r2 e e0 e1 c z2
      · have ee := (hG.2.2 e e0 e1).1
        have c2 := hr.1 _ ee.1 ee.2 c
        rw [r3 e e0 e1 c, w66, hr.2.2 e e0 e1 c, gUp_n (fun hc => z1 (by rw [hc]; exact h1))]
        exact m3 e e0 e1 he (Or.inr ⟨z1, by omega⟩)
  · have ee := (hG.2.2 e e0 e1).1
    have kp := keep _ ee.1 ee.2 he
    rw [r3 e e0 e1 (by rw [kp.2]; exact he), w66, gUp_n (fun hc => kp.1 (by rw [hc]; exact h1))]
    exact m4 e e0 e1 he
  · have kp := keep i i0 i1 hi
    rw [r4 i i0 i1 (by rw [kp.2]; exact hi), w69 i (fun c => hi (by rw [← kp.2, c]; exact hq)), gUp_n kp.1]
    exact m5 i i0 i1 hi
  · rw [r5 j j0 (by omega), w68 j (by omega)]
    exact m6 j j0 j1
theorem t_140L : ∀ (f : Nat) {d : Nat} (hd : 1 ≤ d) {μ : MU} {Q : GQ} {a dp fr : Int} {s : GD} {fin : Int → Int} {ν : MU} {x3 x4 x5 : GV} (hG : iG μ) (hM : iGm μ) (hν : gFr [66, 68, 69, 70] μ ν) (a0 : 0 ≤ a) (a1 : a < (μ 1 0)) (hs : s.1 a = 0) (hI : dInv (μ 1 0) (μ 1 1) (μ 4) (μ 5) s fin) (hc : gCn s.1 0 (μ 1 0) ≤ f + 1) (dp0 : 1 ≤ dp) (dp1 : dp + f ≤ 12) (hv : ∀ i : Int, 0 ≤ i → i < (μ 1 0) → (ν 70) i = gUp s.1 a 1 i) (hn : (ν 69) a = 0) (hk : (ν 68) (dp - 1) = a)
    (h : ∀ (ρ : MU) (y3 y4 y5 : GV), gFr [66, 68, 69, 70] μ ρ → dRes μ ν ρ s (gDfs (μ 1 1).toNat (μ 4) (μ 5) (f + 1) a s) dp → gG g_T g_F (gCall g_T g_F d) 0 (fun _ => 0) (g_T 140) Q 23 [gR 61, gI fr, gI (dp - 1), y3, y4, y5] [] g_SH ρ 0 0), gG g_T g_F (gCall g_T g_F d) 0 (fun _ => 0) (g_T 140) Q 23 [gR 61, gI fr, gI dp, x3, x4, x5] [] g_SH ν 0 0 := by
  intro f
  induction f using Nat.strongRecOn with
  | ind f ihf =>
    intro d hd μ Q a dp fr s fin ν x3 x4 x5 hG hM hν a0 a1 hs hI hc dp0 dp1 hv hn hk h
    have G := hG.1
    have M := hM.1
    have hE := iG_dE hG
    have F := dfs_k (by omega) hE f a s fin a0 a1 hs hc hI
    have mk := (dMark hE a0 a1 hs hI).2.2
    have key : ∀ k : Int, 0 ≤ k → k ≤ (μ 1 1) → ∀ (ρ : MU) (x3 x4 x5 : GV), gFr [66, 68, 69, 70] μ ρ → dMid μ ν ρ s (gFold (dStep (μ 1 1).toNat (μ 4) (μ 5) f a) k.toNat (gUp s.1 a 1, s.2)) a k dp → gG g_T g_F (gCall g_T g_F d) 0 (fun _ => 0) (g_T 140) Q 23 [gR 61, gI fr, gI dp, x3, x4, x5] [] g_SH ρ 0 0 := by
      refine g_up (fun k k0 k1 ih ρ x3 x4 x5 hρ hm => ?_) (fun ρ x3 x4 x5 hρ hm => ?_)
      · obtain ⟨⟨fq, F1⟩, F2, F6⟩ := F k.toNat (by omega)
        rw [show (k + 1).toNat = k.toNat + 1 by omega, show gFold (dStep (μ 1 1).toNat (μ 4) (μ 5) f a) (k.toNat + 1) (gUp s.1 a 1, s.2) = dStep (μ 1 1).toNat (μ 4) (μ 5) f a (k.toNat : Int) (gFold (dStep (μ 1 1).toNat (μ 4) (μ 5) f a) k.toNat (gUp s.1 a 1, s.2)) from rfl, show ((k.toNat : Nat) : Int) = k by omega] at ih
        rw [show ((k.toNat : Nat) : Int) = k by omega] at F2
        generalize gFold (dStep (μ 1 1).toNat (μ 4) (μ 5) f a) k.toNat (gUp s.1 a 1, s.2) = q at *
        have kc := F6.cn
        have g := hG.2.2 k k0 k1
        have gm := hM.2.2 k k0 k1
        obtain ⟨m1, m2, m3, m4, m5, m6⟩ := hm
        have z1 : ρ 62 1 = (μ 1 1) := by rw [hρ 62 (by decide)]; exact M.2
        have z4 : (ρ 68) (dp - 1) = a := by rw [m6 _ (by omega) (by omega)]; exact hk
        have hqk := (F2.2 k k0 k1)
        rw [← z4] at m2
        have z2 : ρ 62 (29 + 5 * (ρ 69) ((ρ 68) (dp - 1)) + 0) = (μ 4) k := by rw [m2, hρ 62 (by decide)]; exact gm.1
        have z3 : ρ 62 (29 + 5 * (ρ 69) ((ρ 68) (dp - 1)) + 1) = (μ 5) k := by rw [m2, hρ 62 (by decide)]; exact gm.2.1
        have z5 : (ρ 70) (ρ 62 (29 + 5 * (ρ 69) ((ρ 68) (dp - 1)) + 1)) = q.1 ((μ 5) k) := by rw [z3]; exact m1 _ g.2.1.1 g.2.1.2
        unfold dStep at ih
        by_cases h1 : (μ 4) k = a
        · rw [if_pos h1] at ih
          have hq0 : q.2 k = 0 := (hqk h1).2 (by omega)
          by_cases h2 : q.1 ((μ 5) k) = 0
          · rw [if_pos h2] at ih
            have pc := gCn_p g.2.1.1 g.2.1.2 h2
            obtain ⟨f', hf'⟩ : ∃ f', f = f' + 1 := ⟨f - 1, by omega⟩
            have sp := dfs_ok (by omega) hE f _ q fq g.2.1.1 g.2.1.2 h2 (by omega) F1
            have nx : ∀ (ρ₁ : MU) (y3 y4 y5 : GV), ρ₁ = gW (gW (gW (gW (gW ρ 69 a (k + 1)) 66 k 0) 70 ((μ 5) k) 1) 69 ((μ 5) k) 0) 68 dp ((μ 5) k) → gG g_T g_F (gCall g_T g_F d) 0 (fun _ => 0) (g_T 140) Q 23 [gR 61, gI fr, gI (dp + 1), y3, y4, y5] [] g_SH ρ₁ 0 0 := by
              intro ρ₁ y3 y4 y5 hρ₁
              refine ihf f' (by omega) hd (s := q) (fin := fq) hG hM (by rw [hρ₁]; exact ((((hρ.W (by decide)).W (by decide)).W (by decide)).W (by decide)).W (by decide)) g.2.1.1 g.2.1.2 h2 F1 (by omega) (by omega) (by omega) (fun i i0 i1 => ?_) ?_ ?_ (fun ρ' y3 y4 y5 hρ' hR => ?_)
              · rw [hρ₁]
                show gW (gW (gW ρ 69 a (k + 1)) 66 k 0) 70 ((μ 5) k) 1 70 i = _
                by_cases c : i = (μ 5) k
                · rw [c, gUp_e]; exact gWe _ _ _ _
                · rw [gUp_n c, gWn _ _ _ c]; exact m1 i i0 i1
              · rw [hρ₁]
                show gW (gW (gW (gW ρ 69 a (k + 1)) 66 k 0) 70 ((μ 5) k) 1) 69 ((μ 5) k) 0 69 ((μ 5) k) = 0
                exact gWe _ _ _ _
              · rw [hρ₁, show dp + 1 - 1 = dp by omega]
                exact gWe _ _ _ _
              · rw [show dp + 1 - 1 = dp by omega]
                rw [← hf', hρ₁] at hR
                exact ih ρ' _ _ _ hρ' (dMid_c hG k0 k1 a0 a1 hs h1 rfl h2 F2.1 hq0 F6 sp.1 ⟨m1, by rw [← m2, z4], m3, m4, m5, m6⟩ hR)
            clear ih m1 m3 m4 m5 m6 hqk
            refine gB_gG [23] 300 ?_
            (conv => whnf); try simp only [gO, gWe, ne_eq, Nat.reduceEqDiff, not_false_eq_true, true_or, or_true, true_and]
            repeat' (first | exact True.intro | (refine ⟨fun hb => ?_, fun hb => ?_⟩ <;> first | (exfalso; omega; done) | exact absurd True.intro hb | ((conv => whnf); try simp only [gO, gWe, ne_eq, Nat.reduceEqDiff, not_false_eq_true, true_or, or_true, true_and])) | (refine ⟨by omega, ?_⟩; (conv => whnf); try simp only [gO, gWe, ne_eq, Nat.reduceEqDiff, not_false_eq_true, true_or, or_true, true_and]) | (refine ⟨fun hb => ?_, ?_⟩ <;> first | (exfalso; omega; done) | exact absurd True.intro hb | ((conv => whnf); try simp only [gO, gWe, ne_eq, Nat.reduceEqDiff, not_false_eq_true, true_or, or_true, true_and])) | fail)
            refine t_127 (by omega) ?_ ?_ ?_ <;> try omega
            (conv => whnf); try simp only [gO, gWe, ne_eq, Nat.reduceEqDiff, not_false_eq_true, true_or, or_true, true_and]
            repeat' (first | exact True.intro | (refine ⟨fun hb => ?_, fun hb => ?_⟩ <;> first | (exfalso; omega; done) | exact absurd True.intro hb | ((conv => whnf); try simp only [gO, gWe, ne_eq, Nat.reduceEqDiff, not_false_eq_true, true_or, or_true, true_and])) | (refine ⟨by omega, ?_⟩; (conv => whnf); try simp only [gO, gWe, ne_eq, Nat.reduceEqDiff, not_false_eq_true, true_or, or_true, true_and]) | (refine ⟨fun hb => ?_, ?_⟩ <;> first | (exfalso; omega; done) | exact absurd True.intro hb | ((conv => whnf); try simp only [gO, gWe, ne_eq, Nat.reduceEqDiff, not_false_eq_true, true_or, or_true, true_and])) | fail)
            refine t_127 (by omega) ?_ ?_ ?_ <;> try omega
            (conv => whnf); try simp only [gO, gWe, ne_eq, Nat.reduceEqDiff, not_false_eq_true, true_or, or_true, true_and]
            repeat' (first | exact True.intro | (refine ⟨fun hb => ?_, fun hb => ?_⟩ <;> first | (exfalso; omega; done) | exact absurd True.intro hb | ((conv => whnf); try simp only [gO, gWe, ne_eq, Nat.reduceEqDiff, not_false_eq_true, true_or, or_true, true_and])) | (refine ⟨by omega, ?_⟩; (conv => whnf); try simp only [gO, gWe, ne_eq, Nat.reduceEqDiff, not_false_eq_true, true_or, or_true, true_and]) | (refine ⟨fun hb => ?_, ?_⟩ <;> first | (exfalso; omega; done) | exact absurd True.intro hb | ((conv => whnf); try simp only [gO, gWe, ne_eq, Nat.reduceEqDiff, not_false_eq_true, true_or, or_true, true_and])) | fail)
            exact nx _ _ _ _ (by rw [z3, m2, z4])
          · by_cases h3 : q.1 ((μ 5) k) = 1
            · rw [if_neg h2, if_pos h3] at ih
              have nx : ∀ (ρ₁ : MU) (y3 y4 y5 : GV), ρ₁ = gW (gW ρ 69 a (k + 1)) 66 k 1 → gG g_T g_F (gCall g_T g_F d) 0 (fun _ => 0) (g_T 140) Q 23 [gR 61, gI fr, gI dp, y3, y4, y5] [] g_SH ρ₁ 0 0 := fun ρ₁ y3 y4 y5 hρ₁ => by
                rw [hρ₁]
                exact ih _ y3 y4 y5 ((hρ.W (by decide)).W (by decide)) (dMid_s (q := q) (r := (q.1, gUp q.2 k 1)) hG k0 hs h1 rfl (fun e c => gUp_n c) gUp_e ⟨m1, by rw [← m2, z4], m3, m4, m5, m6⟩)
              clear ih m1 m3 m4 m5 m6 hqk
              refine gB_gG [23] 300 ?_
              (conv => whnf); try simp only [gO, gWe, ne_eq, Nat.reduceEqDiff, not_false_eq_true, true_or, or_true, true_and]
              repeat' (first | exact True.intro | (refine ⟨fun hb => ?_, fun hb => ?_⟩ <;> first | (exfalso; omega; done) | exact absurd True.intro hb | ((conv => whnf); try simp only [gO, gWe, ne_eq, Nat.reduceEqDiff, not_false_eq_true, true_or, or_true, true_and])) | (refine ⟨by omega, ?_⟩; (conv => whnf); try simp only [gO, gWe, ne_eq, Nat.reduceEqDiff, not_false_eq_true, true_or, or_true, true_and]) | (refine ⟨fun hb => ?_, ?_⟩ <;> first | (exfalso; omega; done) | exact absurd True.intro hb | ((conv => whnf); try simp only [gO, gWe, ne_eq, Nat.reduceEqDiff, not_false_eq_true, true_or, or_true, true_and])) | fail)
              refine t_127 (by omega) ?_ ?_ ?_ <;> try omega
              (conv => whnf); try simp only [gO, gWe, ne_eq, Nat.reduceEqDiff, not_false_eq_true, true_or, or_true, true_and]
              repeat' (first | exact True.intro | (refine ⟨fun hb => ?_, fun hb => ?_⟩ <;> first | (exfalso; omega; done) | exact absurd True.intro hb | ((conv => whnf); try simp only [gO, gWe, ne_eq, Nat.reduceEqDiff, not_false_eq_true, true_or, or_true, true_and])) | (refine ⟨by omega, ?_⟩; (conv => whnf); try simp only [gO, gWe, ne_eq, Nat.reduceEqDiff, not_false_eq_true, true_or, or_true, true_and]) | (refine ⟨fun hb => ?_, ?_⟩ <;> first | (exfalso; omega; done) | exact absurd True.intro hb | ((conv => whnf); try simp only [gO, gWe, ne_eq, Nat.reduceEqDiff, not_false_eq_true, true_or, or_true, true_and])) | fail)
              refine t_127 (by omega) ?_ ?_ ?_ <;> try omega
              (conv => whnf); try simp only [gO, gWe, ne_eq, Nat.reduceEqDiff, not_false_eq_true, true_or, or_true, true_and]
              repeat' (first | exact True.intro | (refine ⟨fun hb => ?_, fun hb => ?_⟩ <;> first | (exfalso; omega; done) | exact absurd True.intro hb | ((conv => whnf); try simp only [gO, gWe, ne_eq, Nat.reduceEqDiff, not_false_eq_true, true_or, or_true, true_and])) | (refine ⟨by omega, ?_⟩; (conv => whnf); try simp only [gO, gWe, ne_eq, Nat.reduceEqDiff, not_false_eq_true, true_or, or_true, true_and]) | (refine ⟨fun hb => ?_, ?_⟩ <;> first | (exfalso; omega; done) | exact absurd True.intro hb | ((conv => whnf); try simp only [gO, gWe, ne_eq, Nat.reduceEqDiff, not_false_eq_true, true_or, or_true, true_and])) | fail)
              exact nx _ _ _ _ (by rw [m2, z4])
            · rw [if_neg h2, if_neg h3] at ih
              have h4 : q.1 ((μ 5) k) = 2 := by
                have := F1.1 _ g.2.1.1 g.2.1.2
                omega
              have nx : ∀ (ρ₁ : MU) (y3 y4 y5 : GV), ρ₁ = gW (gW ρ 69 a (k + 1)) 66 k 0 → gG g_T g_F (gCall g_T g_F d) 0 (fun _ => 0) (g_T 140) Q 23 [gR 61, gI fr, gI dp, y3, y4, y5] [] g_SH ρ₁ 0 0 := fun ρ₁ y3 y4 y5 hρ₁ => by
                rw [hρ₁]
                exact ih _ y3 y4 y5 ((hρ.W (by decide)).W (by decide)) (dMid_s (q := q) (r := q) hG k0 hs h1 rfl (fun e c => rfl) hq0 ⟨m1, by rw [← m2, z4], m3, m4, m5, m6⟩)
              clear ih m1 m3 m4 m5 m6 hqk h2 h3
              refine gB_gG [23] 300 ?_
              (conv => whnf); try simp only [gO, gWe, ne_eq, Nat.reduceEqDiff, not_false_eq_true, true_or, or_true, true_and]
              repeat' (first | exact True.intro | (refine ⟨fun hb => ?_, fun hb => ?_⟩ <;> first | (exfalso; omega; done) | exact absurd True.intro hb | ((conv => whnf); try simp only [gO, gWe, ne_eq, Nat.reduceEqDiff, not_false_eq_true, true_or, or_true, true_and])) | (refine ⟨by omega, ?_⟩; (conv => whnf); try simp only [gO, gWe, ne_eq, Nat.reduceEqDiff, not_false_eq_true, true_or, or_true, true_and]) | (refine ⟨fun hb => ?_, ?_⟩ <;> first | (exfalso; omega; done) | exact absurd True.intro hb | ((conv => whnf); try simp only [gO, gWe, ne_eq, Nat.reduceEqDiff, not_false_eq_true, true_or, or_true, true_and])) | fail)
              refine t_127 (by omega) ?_ ?_ ?_ <;> try omega
              (conv => whnf); try simp only [gO, gWe, ne_eq, Nat.reduceEqDiff, not_false_eq_true, true_or, or_true, true_and]
              repeat' (first | exact True.intro | (refine ⟨fun hb => ?_, fun hb => ?_⟩ <;> first | (exfalso; omega; done) | exact absurd True.intro hb | ((conv => whnf); try simp only [gO, gWe, ne_eq, Nat.reduceEqDiff, not_false_eq_true, true_or, or_true, true_and])) | (refine ⟨by omega, ?_⟩; (conv => whnf); try simp only [gO, gWe, ne_eq, Nat.reduceEqDiff, not_false_eq_true, true_or, or_true, true_and]) | (refine ⟨fun hb => ?_, ?_⟩ <;> first | (exfalso; omega; done) | exact absurd True.intro hb | ((conv => whnf); try simp only [gO, gWe, ne_eq, Nat.reduceEqDiff, not_false_eq_true, true_or, or_true, true_and])) | fail)
              refine t_127 (by omega) ?_ ?_ ?_ <;> try omega
              (conv => whnf); try simp only [gO, gWe, ne_eq, Nat.reduceEqDiff, not_false_eq_true, true_or, or_true, true_and]
              repeat' (first | exact True.intro | (refine ⟨fun hb => ?_, fun hb => ?_⟩ <;> first | (exfalso; omega; done) | exact absurd True.intro hb | ((conv => whnf); try simp only [gO, gWe, ne_eq, Nat.reduceEqDiff, not_false_eq_true, true_or, or_true, true_and])) | (refine ⟨by omega, ?_⟩; (conv => whnf); try simp only [gO, gWe, ne_eq, Nat.reduceEqDiff, not_false_eq_true, true_or, or_true, true_and]) | (refine ⟨fun hb => ?_, ?_⟩ <;> first | (exfalso; omega; done) | exact absurd True.intro hb | ((conv => whnf); try simp only [gO, gWe, ne_eq, Nat.reduceEqDiff, not_false_eq_true, true_or, or_true, true_and])) | fail)
              exact nx _ _ _ _ (by rw [m2, z4])
        · rw [if_neg h1] at ih
          have nx : ∀ (ρ₁ : MU) (y3 y4 y5 : GV), ρ₁ = gW ρ 69 a (k + 1) → gG g_T g_F (gCall g_T g_F d) 0 (fun _ => 0) (g_T 140) Q 23 [gR 61, gI fr, gI dp, y3, y4, y5] [] g_SH ρ₁ 0 0 := fun ρ₁ y3 y4 y5 hρ₁ => by
            rw [hρ₁]
            exact ih _ y3 y4 y5 (hρ.W (by decide)) (dMid_n hs h1 ⟨m1, by rw [← m2, z4], m3, m4, m5, m6⟩)
          clear ih m1 m3 m4 m5 m6 hqk
          refine gB_gG [23] 300 ?_
          (conv => whnf); try simp only [gO, gWe, ne_eq, Nat.reduceEqDiff, not_false_eq_true, true_or, or_true, true_and]
          repeat' (first | exact True.intro | (refine ⟨fun hb => ?_, fun hb => ?_⟩ <;> first | (exfalso; omega; done) | exact absurd True.intro hb | ((conv => whnf); try simp only [gO, gWe, ne_eq, Nat.reduceEqDiff, not_false_eq_true, true_or, or_true, true_and])) | (refine ⟨by omega, ?_⟩; (conv => whnf); try simp only [gO, gWe, ne_eq, Nat.reduceEqDiff, not_false_eq_true, true_or, or_true, true_and]) | (refine ⟨fun hb => ?_, ?_⟩ <;> first | (exfalso; omega; done) | exact absurd True.intro hb | ((conv => whnf); try simp only [gO, gWe, ne_eq, Nat.reduceEqDiff, not_false_eq_true, true_or, or_true, true_and])) | fail)
          refine t_127 (by omega) ?_ ?_ ?_ <;> try omega
          (conv => whnf); try simp only [gO, gWe, ne_eq, Nat.reduceEqDiff, not_false_eq_true, true_or, or_true, true_and]
          repeat' (first | exact True.intro | (refine ⟨fun hb => ?_, fun hb => ?_⟩ <;> first | (exfalso; omega; done) | exact absurd True.intro hb | ((conv => whnf); try simp only [gO, gWe, ne_eq, Nat.reduceEqDiff, not_false_eq_true, true_or, or_true, true_and])) | (refine ⟨by omega, ?_⟩; (conv => whnf); try simp only [gO, gWe, ne_eq, Nat.reduceEqDiff, not_false_eq_true, true_or, or_true, true_and]) | (refine ⟨fun hb => ?_, ?_⟩ <;> first | (exfalso; omega; done) | exact absurd True.intro hb | ((conv => whnf); try simp only [gO, gWe, ne_eq, Nat.reduceEqDiff, not_false_eq_true, true_or, or_true, true_and])) | fail)
          exact nx _ _ _ _ (by rw [m2, z4])
      · obtain ⟨⟨fq, F1⟩, F2, F6⟩ := F (μ 1 1).toNat (Nat.le_refl _)
        have R := h (gW (gW ρ 69 a ((μ 1 1) + 1)) 70 a 2)
        rw [gDfs_s] at R
        generalize gFold (dStep (μ 1 1).toNat (μ 4) (μ 5) f a) (μ 1 1).toNat (gUp s.1 a 1, s.2) = q at *
        obtain ⟨m1, m2, m3, m4, m5, m6⟩ := hm
        have z1 : ρ 62 1 = (μ 1 1) := by rw [hρ 62 (by decide)]; exact M.2
        have z4 : (ρ 68) (dp - 1) = a := by rw [m6 _ (by omega) (by omega)]; exact hk
        rw [← z4] at m2
        have nx : ∀ (ρ₁ : MU) (y3 y4 y5 : GV), ρ₁ = gW (gW ρ 69 a ((μ 1 1) + 1)) 70 a 2 → gG g_T g_F (gCall g_T g_F d) 0 (fun _ => 0) (g_T 140) Q 23 [gR 61, gI fr, gI (dp - 1), y3, y4, y5] [] g_SH ρ₁ 0 0 := fun ρ₁ y3 y4 y5 hρ₁ => by
          rw [hρ₁]
          refine R y3 y4 y5 ((hρ.W (by decide)).W (by decide)) ⟨fun i i0 i1 => ?_, fun e e0 e1 he hh => ?_, m4, fun i i0 i1 hi => ?_, fun j j0 j1 => m6 j j0 (by omega)⟩
          · show gW (gW ρ 69 a ((μ 1 1) + 1)) 70 a 2 70 i = gUp q.1 a 2 i
            by_cases c : i = a
            · rw [c, gUp_e]; exact gWe _ _ _ _
            · rw [gUp_n c, gWn _ _ _ c]; exact m1 i i0 i1
          · refine m3 e e0 e1 he ?_
            by_cases c : (μ 4) e = a
            · exact Or.inl ⟨c, e1⟩
            · have hh' : gUp q.1 a 2 ((μ 4) e) = 2 := hh
              rw [gUp_n c] at hh'
              exact Or.inr ⟨c, hh'⟩
          · show gW ρ 69 a ((μ 1 1) + 1) 69 i = _
            rw [gWn _ _ _ (fun c => hi (by rw [c]; exact hs))]
            exact m5 i i0 i1 hi
        clear R h m1 m3 m4 m5 m6
        refine gB_gG [23] 300 ?_
        (conv => whnf); try simp only [gO, gWe, ne_eq, Nat.reduceEqDiff, not_false_eq_true, true_or, or_true, true_and]
        repeat' (first | exact True.intro | (refine ⟨fun hb => ?_, fun hb => ?_⟩ <;> first | (exfalso; omega; done) | exact absurd True.intro hb | ((conv => whnf); try simp only [gO, gWe, ne_eq, Nat.reduceEqDiff, not_false_eq_true, true_or, or_true, true_and])) | (refine ⟨by omega, ?_⟩; (conv => whnf); try simp only [gO, gWe, ne_eq, Nat.reduceEqDiff, not_false_eq_true, true_or, or_true, true_and]) | (refine ⟨fun hb => ?_, ?_⟩ <;> first | (exfalso; omega; done) | exact absurd True.intro hb | ((conv => whnf); try simp only [gO, gWe, ne_eq, Nat.reduceEqDiff, not_false_eq_true, true_or, or_true, true_and])) | fail)
        exact nx _ _ _ _ (by rw [m2, z4])
    refine key 0 (by omega) (by omega) ν x3 x4 x5 hν ⟨hv, hn, fun e e0 e1 he hh => ?_, fun _ _ _ _ => rfl, fun _ _ _ _ => rfl, fun _ _ _ => rfl⟩
    rcases hh with z | ⟨z1, z2⟩
    · omega
    · have z2' : gUp s.1 a 1 ((μ 4) e) = 2 := z2
      rw [gUp_n z1] at z2'
      omega
theorem t_141 {D : Nat} (hD : 3 ≤ D) {μ : MU} {Q : GQ} (hG : iG μ) (hM : iGm μ) (hU : iU μ) (h : ∀ ν : MU, gFr [66, 68, 69, 70] μ ν → (∀ e : Int, 0 ≤ e → e < (μ 1 1) → (ν 66) e = (μ 10) e) → Q none g_SH ν) : gCall g_T g_F D 141 [gR 61] g_SH μ Q := by
  have G := hG.1
  have M := hM.1
  have hE := iG_dE hG
  have al := dirs_all (by omega) (by omega) (by omega) hE
  obtain ⟨d, rfl⟩ := gD (show 1 ≤ D by omega)
  refine gC 300 [2] rfl ?_
  (conv => whnf); try simp only [gO, gWe, ne_eq, Nat.reduceEqDiff, not_false_eq_true, true_or, or_true, true_and]
  have two : ∀ a : Int, 0 ≤ a → a ≤ (μ 1 0) → ∀ ν : MU, gFr [66, 68, 69, 70] μ ν → (∀ i : Int, 0 ≤ i → i < (μ 1 0) → (ν 70) i = (gFold (dTop (μ 1 1).toNat (μ 4) (μ 5)) a.toNat (fun _ => 0, fun _ => 0)).1 i) → (∀ e : Int, 0 ≤ e → e < (μ 1 1) → (gFold (dTop (μ 1 1).toNat (μ 4) (μ 5)) a.toNat (fun _ => 0, fun _ => 0)).1 ((μ 4) e) = 2 → (ν 66) e = (gFold (dTop (μ 1 1).toNat (μ 4) (μ 5)) a.toNat (fun _ => 0, fun _ => 0)).2 e) → gG g_T g_F (gCall g_T g_F d) 0 (fun _ => 0) (g_T 141) Q 27 [gR 61, gI a] [] g_SH ν 0 0 := by
    refine g_up (fun a a0 a1 ih ν hν hv hr => ?_) (fun ν hν hv hr => ?_)
    · have A := al a.toNat (by omega)
      rw [show ((a.toNat : Nat) : Int) = a by omega] at A
      have st := dAll_s (by omega) (by omega) hE a0 a1 A
      rw [show (a + 1).toNat = a.toNat + 1 by omega, show gFold (dTop (μ 1 1).toNat (μ 4) (μ 5)) (a.toNat + 1) (fun _ => 0, fun _ => 0) = dTop (μ 1 1).toNat (μ 4) (μ 5) (a.toNat : Int) (gFold (dTop (μ 1 1).toNat (μ 4) (μ 5)) a.toNat (fun _ => 0, fun _ => 0)) from rfl, show ((a.toNat : Nat) : Int) = a by omega] at ih
      generalize gFold (dTop (μ 1 1).toNat (μ 4) (μ 5)) a.toNat (fun _ => 0, fun _ => 0) = q at *
      have z0 : ν 62 0 = (μ 1 0) := by rw [hν 62 (by decide)]; exact M.1
      have va := hv a a0 a1
      unfold dTop at ih
      by_cases h2 : q.1 a = 0
      · rw [if_pos h2] at ih
        have sp := st.2 h2
        obtain ⟨fq, F1⟩ := A.1
        have cb := gCn_b (p := q.1) (k := 0) (n := (μ 1 0)) (by omega)
        have nx : ∀ {Q' : GQ} {ρ₁ : MU}, gFr [66, 68, 69, 70] μ ρ₁ → (∀ i : Int, 0 ≤ i → i < (μ 1 0) → (ρ₁ 70) i = q.1 i) → (∀ e : Int, 0 ≤ e → e < (μ 1 1) → (ρ₁ 66) e = (ν 66) e) → (∀ ρ : MU, gFr [66, 68, 69, 70] μ ρ → (∀ i : Int, 0 ≤ i → i < (μ 1 0) → (ρ 70) i = (gDfs (μ 1 1).toNat (μ 4) (μ 5) 12 a q).1 i) → (∀ e : Int, 0 ≤ e → e < (μ 1 1) → (gDfs (μ 1 1).toNat (μ 4) (μ 5) 12 a q).1 ((μ 4) e) = 2 → (ρ 66) e = (gDfs (μ 1 1).toNat (μ 4) (μ 5) 12 a q).2 e) → Q' none g_SH ρ) → gCall g_T g_F d 140 [gR 61, gI a] g_SH ρ₁ Q' := by
          intro Q' ρ₁ hρ₁ v1 v2 k
          obtain ⟨d, rfl⟩ := gD (show 1 ≤ d by omega)
          refine gC 300 [23] rfl ?_
          (conv => whnf); try simp only [gO, gWe, ne_eq, Nat.reduceEqDiff, not_false_eq_true, true_or, or_true, true_and]
          repeat' (first | exact True.intro | (refine ⟨fun hb => ?_, fun hb => ?_⟩ <;> first | (exfalso; omega; done) | exact absurd True.intro hb | ((conv => whnf); try simp only [gO, gWe, ne_eq, Nat.reduceEqDiff, not_false_eq_true, true_or, or_true, true_and])) | (refine ⟨by omega, ?_⟩; (conv => whnf); try simp only [gO, gWe, ne_eq, Nat.reduceEqDiff, not_false_eq_true, true_or, or_true, true_and]) | (refine ⟨fun hb => ?_, ?_⟩ <;> first | (exfalso; omega; done) | exact absurd True.intro hb | ((conv => whnf); try simp only [gO, gWe, ne_eq, Nat.reduceEqDiff, not_false_eq_true, true_or, or_true, true_and])) | fail)
          refine t_140L 11 (by omega) (s := q) (fin := fq) hG hM (((hρ₁.W (by decide)).W (by decide)).W (by decide)) a0 a1 h2 F1 (by omega) (by omega) (by omega) (fun i i0 i1 => ?_) ?_ ?_ (fun ρ y3 y4 y5 hρ hR => ?_)
          · show gW (gW ρ₁ 68 0 a) 70 a 1 70 i = _
            by_cases c : i = a
            · rw [c, gUp_e]; exact gWe _ _ _ _
            · rw [gUp_n c, gWn _ _ _ c]; exact v1 i i0 i1
          · exact gWe _ _ _ _
          · show gW ρ₁ 68 0 a 68 0 = a
            exact gWe _ _ _ _
          · have fin := k ρ hρ hR.1 (fun e e0 e1 he => by
              by_cases c : q.1 ((μ 4) e) = 0
              · exact hR.2.1 e e0 e1 c he
              · have ee := (hE e e0 e1).1
                have := sp.1.1 _ ee.1 ee.2 c
                rw [hR.2.2.1 e e0 e1 c, sp.1.2.2 e e0 e1 c]
                have t := hr e e0 e1 (by rw [← this]; exact he)
                rw [← t]
                exact v2 e e0 e1)
            refine gB_gG [23] 300 ?_
            (conv => whnf); try simp only [gO, gWe, ne_eq, Nat.reduceEqDiff, not_false_eq_true, true_or, or_true, true_and]
            repeat' (first | exact True.intro | (refine ⟨fun hb => ?_, fun hb => ?_⟩ <;> first | (exfalso; omega; done) | exact absurd True.intro hb | ((conv => whnf); try simp only [gO, gWe, ne_eq, Nat.reduceEqDiff, not_false_eq_true, true_or, or_true, true_and])) | (refine ⟨by omega, ?_⟩; (conv => whnf); try simp only [gO, gWe, ne_eq, Nat.reduceEqDiff, not_false_eq_true, true_or, or_true, true_and]) | (refine ⟨fun hb => ?_, ?_⟩ <;> first | (exfalso; omega; done) | exact absurd True.intro hb | ((conv => whnf); try simp only [gO, gWe, ne_eq, Nat.reduceEqDiff, not_false_eq_true, true_or, or_true, true_and])) | fail)
            exact fin
        clear hr
        refine gB_gG [27] 300 ?_
        (conv => whnf); try simp only [gO, gWe, ne_eq, Nat.reduceEqDiff, not_false_eq_true, true_or, or_true, true_and]
        repeat' (first | exact True.intro | (refine ⟨fun hb => ?_, fun hb => ?_⟩ <;> first | (exfalso; omega; done) | exact absurd True.intro hb | ((conv => whnf); try simp only [gO, gWe, ne_eq, Nat.reduceEqDiff, not_false_eq_true, true_or, or_true, true_and])) | (refine ⟨by omega, ?_⟩; (conv => whnf); try simp only [gO, gWe, ne_eq, Nat.reduceEqDiff, not_false_eq_true, true_or, or_true, true_and]) | (refine ⟨fun hb => ?_, ?_⟩ <;> first | (exfalso; omega; done) | exact absurd True.intro hb | ((conv => whnf); try simp only [gO, gWe, ne_eq, Nat.reduceEqDiff, not_false_eq_true, true_or, or_true, true_and])) | fail)
        refine nx hν hv (fun _ _ _ => rfl) (fun ρ hρ r1 r2 => ?_)
        (conv => whnf); try simp only [gO, gWe, ne_eq, Nat.reduceEqDiff, not_false_eq_true, true_or, or_true, true_and]
        repeat' (first | exact True.intro | (refine ⟨fun hb => ?_, fun hb => ?_⟩ <;> first | (exfalso; omega; done) | exact absurd True.intro hb | ((conv => whnf); try simp only [gO, gWe, ne_eq, Nat.reduceEqDiff, not_false_eq_true, true_or, or_true, true_and])) | (refine ⟨by omega, ?_⟩; (conv => whnf); try simp only [gO, gWe, ne_eq, Nat.reduceEqDiff, not_false_eq_true, true_or, or_true, true_and]) | (refine ⟨fun hb => ?_, ?_⟩ <;> first | (exfalso; omega; done) | exact absurd True.intro hb | ((conv => whnf); try simp only [gO, gWe, ne_eq, Nat.reduceEqDiff, not_false_eq_true, true_or, or_true, true_and])) | fail)
        exact ih ρ hρ r1 r2
      · rw [if_neg h2] at ih
        have nx := ih ν hν hv hr
        clear hr ih
        refine gB_gG [27] 300 ?_
        (conv => whnf); try simp only [gO, gWe, ne_eq, Nat.reduceEqDiff, not_false_eq_true, true_or, or_true, true_and]
        repeat' (first | exact True.intro | (refine ⟨fun hb => ?_, fun hb => ?_⟩ <;> first | (exfalso; omega; done) | exact absurd True.intro hb | ((conv => whnf); try simp only [gO, gWe, ne_eq, Nat.reduceEqDiff, not_false_eq_true, true_or, or_true, true_and])) | (refine ⟨by omega, ?_⟩; (conv => whnf); try simp only [gO, gWe, ne_eq, Nat.reduceEqDiff, not_false_eq_true, true_or, or_true, true_and]) | (refine ⟨fun hb => ?_, ?_⟩ <;> first | (exfalso; omega; done) | exact absurd True.intro hb | ((conv => whnf); try simp only [gO, gWe, ne_eq, Nat.reduceEqDiff, not_false_eq_true, true_or, or_true, true_and])) | fail)
        exact nx
    · have z0 : ν 62 0 = (μ 1 0) := by rw [hν 62 (by decide)]; exact M.1
      have A := al (μ 1 0).toNat (Nat.le_refl _)
      rw [← gDirs_s] at A hr
      have fin := h ν hν (fun e e0 e1 => by
        rw [hr e e0 e1 (A.2.2 _ (hE e e0 e1).1.1 (by have := (hE e e0 e1).1.2; omega))]
        exact (hU e e0 e1).1.symm)
      clear hr
      refine gB_gG [27] 300 ?_
      (conv => whnf); try simp only [gO, gWe, ne_eq, Nat.reduceEqDiff, not_false_eq_true, true_or, or_true, true_and]
      repeat' (first | exact True.intro | (refine ⟨fun hb => ?_, fun hb => ?_⟩ <;> first | (exfalso; omega; done) | exact absurd True.intro hb | ((conv => whnf); try simp only [gO, gWe, ne_eq, Nat.reduceEqDiff, not_false_eq_true, true_or, or_true, true_and])) | (refine ⟨by omega, ?_⟩; (conv => whnf); try simp only [gO, gWe, ne_eq, Nat.reduceEqDiff, not_false_eq_true, true_or, or_true, true_and]) | (refine ⟨fun hb => ?_, ?_⟩ <;> first | (exfalso; omega; done) | exact absurd True.intro hb | ((conv => whnf); try simp only [gO, gWe, ne_eq, Nat.reduceEqDiff, not_false_eq_true, true_or, or_true, true_and])) | fail)
      exact fin
  have one : ∀ a : Int, 0 ≤ a → a ≤ (μ 1 0) → ∀ ν : MU, gFr [66, 68, 69, 70] μ ν → (∀ i : Int, 0 ≤ i → i < a → (ν 70) i = 0) → gG g_T g_F (gCall g_T g_F d) 0 (fun _ => 0) (g_T 141) Q 2 [gR 61, gI a] [] g_SH ν 0 0 := by
    refine g_up (fun a a0 a1 ih ν hν hv => ?_) (fun ν hν hv => ?_)
    · have z0 : ν 62 0 = (μ 1 0) := by rw [hν 62 (by decide)]; exact M.1
      refine gB_gG [2] 300 ?_
      (conv => whnf); try simp only [gO, gWe, ne_eq, Nat.reduceEqDiff, not_false_eq_true, true_or, or_true, true_and]
      repeat' (first | exact True.intro | (refine ⟨fun hb => ?_, fun hb => ?_⟩ <;> first | (exfalso; omega; done) | exact absurd True.intro hb | ((conv => whnf); try simp only [gO, gWe, ne_eq, Nat.reduceEqDiff, not_false_eq_true, true_or, or_true, true_and])) | (refine ⟨by omega, ?_⟩; (conv => whnf); try simp only [gO, gWe, ne_eq, Nat.reduceEqDiff, not_false_eq_true, true_or, or_true, true_and]) | (refine ⟨fun hb => ?_, ?_⟩ <;> first | (exfalso; omega; done) | exact absurd True.intro hb | ((conv => whnf); try simp only [gO, gWe, ne_eq, Nat.reduceEqDiff, not_false_eq_true, true_or, or_true, true_and])) | fail)
      refine ih _ (hν.W (by decide)) (fun i i0 i1 => ?_)
      show gW ν 70 a 0 70 i = 0
      by_cases c : i = a
      · rw [c]; exact gWe _ _ _ _
      · rw [gWn _ _ _ c]; exact hv i i0 (by omega)
    · have z0 : ν 62 0 = (μ 1 0) := by rw [hν 62 (by decide)]; exact M.1
      refine gB_gG [2,27] 300 ?_
      (conv => whnf); try simp only [gO, gWe, ne_eq, Nat.reduceEqDiff, not_false_eq_true, true_or, or_true, true_and]
      repeat' (first | exact True.intro | (refine ⟨fun hb => ?_, fun hb => ?_⟩ <;> first | (exfalso; omega; done) | exact absurd True.intro hb | ((conv => whnf); try simp only [gO, gWe, ne_eq, Nat.reduceEqDiff, not_false_eq_true, true_or, or_true, true_and])) | (refine ⟨by omega, ?_⟩; (conv => whnf); try simp only [gO, gWe, ne_eq, Nat.reduceEqDiff, not_false_eq_true, true_or, or_true, true_and]) | (refine ⟨fun hb => ?_, ?_⟩ <;> first | (exfalso; omega; done) | exact absurd True.intro hb | ((conv => whnf); try simp only [gO, gWe, ne_eq, Nat.reduceEqDiff, not_false_eq_true, true_or, or_true, true_and])) | fail)
      exact two 0 (by omega) (by omega) ν hν hv (fun e _ _ he => by have he' : (0 : Int) = 2 := he; omega)
  exact one 0 (by omega) (by omega) μ gFr.rf (fun i _ _ => by omega)
