variable {sN : Int} {sX : Int → Int}
/-! two neighbours change places -/
abbrev GO : Type := (Int → Int) × (Int → Int)
def swS (sq : Int → Int) (i : Int) : Int → Int := fun k => if k = i + 1 then sq i else if k = i then sq (i + 1) else sq k
def swP (sq pl : Int → Int) (i p : Int) : Int → Int := fun v => if v = sq i then p + 1 else if v = sq (i + 1) then p else pl v
def sw (st : Int) (s : GO) (p : Int) : GO := (swS s.1 (st + p), swP s.1 s.2 (st + p) p)
theorem iO_sw {μ : MU} {sq pl : Int → Int} (hG : iG μ) (hL : iL μ) (hN : iN μ) (hO : iO μ sq pl) {y p : Int} (y0 : 0 ≤ y) (y1 : y < (μ 9 1)) (p0 : 0 ≤ p) (p1 : (μ 23) y + p + 1 < (μ 23) (y + 1)) : iO μ (swS sq ((μ 23) y + p)) (swP sq pl ((μ 23) y + p) p) := by
  have st := (iN_st hG hL hN).1 y y0 y1
  have a1 := hO.1 y y0 y1 ((μ 23) y + p) (by omega) (by omega)
  have a2 := hO.1 y y0 y1 ((μ 23) y + p + 1) (by omega) (by omega)
  have ne : sq ((μ 23) y + p + 1) ≠ sq ((μ 23) y + p) := fun h => by have := iO_inj hG hL hN hO (by omega) (by omega) (by omega) (by omega) h; omega
  refine ⟨fun y' y0' y1' k k0 k1 => ?_, fun v v0 v1 => ?_⟩
  · have st' := (iN_st hG hL hN).1 y' y0' y1'
    have b := hO.1 y' y0' y1' k k0 k1
    unfold swS swP
    by_cases c1 : k = (μ 23) y + p + 1
    · subst c1
      rw [if_pos rfl, if_pos rfl]
      rw [a2.2.1] at b
      refine ⟨a1.1, by omega, ?_⟩
      rw [← b.2.1]
      omega
    · by_cases c2 : k = (μ 23) y + p
      · subst c2
        rw [if_neg c1, if_pos rfl, if_neg ne, if_pos rfl]
        rw [a1.2.1] at b
        refine ⟨a2.1, by omega, ?_⟩
        rw [← b.2.1]
        omega
      · have n1 : sq k ≠ sq ((μ 23) y + p) := fun h => c2 (iO_inj hG hL hN hO (by omega) (by omega) (by omega) (by omega) h)
        have n2 : sq k ≠ sq ((μ 23) y + p + 1) := fun h => c1 (iO_inj hG hL hN hO (by omega) (by omega) (by omega) (by omega) h)
        rw [if_neg c1, if_neg c2, if_neg n1, if_neg n2]
        exact b
  · have b := hO.2 v v0 v1
    unfold swS swP
    by_cases c1 : v = sq ((μ 23) y + p)
    · subst c1
      rw [if_pos rfl, a1.2.1, if_pos (by omega)]
      exact ⟨by omega, by omega, rfl⟩
    · by_cases c2 : v = sq ((μ 23) y + p + 1)
      · subst c2
        rw [if_neg c1, if_pos rfl, a2.2.1, if_neg (by omega), if_pos rfl]
        exact ⟨by omega, by omega, rfl⟩
      · have n1 : (μ 23) ((μ 21) v) + pl v ≠ (μ 23) y + p + 1 := fun h => by rw [h] at b; exact c2 b.2.2.symm
        have n2 : (μ 23) ((μ 21) v) + pl v ≠ (μ 23) y + p := fun h => by rw [h] at b; exact c1 b.2.2.symm
        rw [if_neg c1, if_neg c2, if_neg n1, if_neg n2]
        exact b
theorem swS_2 (sq : Int → Int) (i : Int) : swS (swS sq i) i = sq := by
  funext k
  unfold swS
  by_cases c1 : k = i + 1
  · subst c1; rw [if_pos rfl, if_neg (by omega), if_pos rfl]
  · by_cases c2 : k = i
    · subst c2; rw [if_neg c1, if_pos rfl, if_pos rfl]
    · rw [if_neg c1, if_neg c2, if_neg c1, if_neg c2]
theorem t_49 {D : Nat} (hD : 1 ≤ D) {μ : MU} {Q : GQ} {y p : Int} (hH0 : iH μ) (y0 : 0 ≤ y) (y1 : y < (μ 9 1)) (p0 : 0 ≤ p) (p1 : (μ 23) y + p + 1 < (μ 23) (y + 1)) (h : ∀ ν : MU, gFr [24, 25] μ ν → (ν 24) = swS (μ 24) ((μ 23) y + p) → (ν 25) = swP (μ 24) (μ 25) ((μ 23) y + p) p → Q none g_SH ν) : gCall g_T g_F sN sX D 49 [gR 19, gI y, gI p] g_SH μ Q := by
  have L := hH0.2.1.2.2.2.1
  have V := hH0.2.2.1.1
  have st := (iN_st hH0.1 hH0.2.1 hH0.2.2.1).1 y y0 y1
  have a1 := hH0.2.2.2.1 y y0 y1 ((μ 23) y + p) (by omega) (by omega)
  have a2 := hH0.2.2.2.1 y y0 y1 ((μ 23) y + p + 1) (by omega) (by omega)
  obtain ⟨d, rfl⟩ := gD (show 1 ≤ D by omega)
  refine gC 300 [] rfl ?_
  (conv => whnf); try simp only [gO, gWe, ne_eq, Nat.reduceEqDiff, not_false_eq_true, true_or, or_true, true_and]
  repeat' (first | exact True.intro | (refine ⟨fun hb => ?_, fun hb => ?_⟩ <;> first | (exfalso; omega; done) | exact absurd True.intro hb | ((conv => whnf); try simp only [gO, gWe, ne_eq, Nat.reduceEqDiff, not_false_eq_true, true_or, or_true, true_and])) | (refine ⟨by omega, ?_⟩; (conv => whnf); try simp only [gO, gWe, ne_eq, Nat.reduceEqDiff, not_false_eq_true, true_or, or_true, true_and]) | (refine ⟨fun hb => ?_, ?_⟩ <;> first | (exfalso; omega; done) | exact absurd True.intro hb | ((conv => whnf); try simp only [gO, gWe, ne_eq, Nat.reduceEqDiff, not_false_eq_true, true_or, or_true, true_and])) | fail)
  exact h _ ((((gFr.rf.W (by decide)).W (by decide)).W (by decide)).W (by decide)) rfl rfl
/-- a vertex goes k places down, from the place a; k places up -/
def gDn (st : Int) (s : GO) (a : Int) : Nat → GO
  | 0 => s
  | k + 1 => sw st (gDn st s a k) (a - 1 - k)
def gUw (st : Int) (s : GO) (a : Int) : Nat → GO
  | 0 => s
  | k + 1 => sw st (gUw st s a k) (a + k)
theorem gDn_o {μ : MU} {s : GO} (hG : iG μ) (hL : iL μ) (hN : iN μ) (hO : iO μ s.1 s.2) {y a : Int} (y0 : 0 ≤ y) (y1 : y < (μ 9 1)) (a1 : (μ 23) y + a < (μ 23) (y + 1)) : ∀ k : Nat, (k : Int) ≤ a → iO μ (gDn ((μ 23) y) s a k).1 (gDn ((μ 23) y) s a k).2 ∧ (gDn ((μ 23) y) s a k).1 ((μ 23) y + (a - k)) = s.1 ((μ 23) y + a) := by
  intro k
  induction k with
  | zero => intro _; exact ⟨hO, by rw [show a - ((0 : Nat) : Int) = a by omega]; rfl⟩
  | succ k ih =>
    intro hk
    have i := ih (by omega)
    refine ⟨iO_sw hG hL hN i.1 y0 y1 (by omega) (by omega), ?_⟩
    rw [← i.2]
    show (if _ then _ else _) = _
    rw [if_neg (by omega)]
    show (if _ then _ else _) = _
    rw [if_pos (by omega), show (μ 23) y + (a - 1 - (k : Int)) + 1 = (μ 23) y + (a - k) by omega]
theorem gUw_o {μ : MU} {s : GO} (hG : iG μ) (hL : iL μ) (hN : iN μ) (hO : iO μ s.1 s.2) {y a : Int} (y0 : 0 ≤ y) (y1 : y < (μ 9 1)) (a0 : 0 ≤ a) : ∀ k : Nat, (μ 23) y + (a + k) < (μ 23) (y + 1) → iO μ (gUw ((μ 23) y) s a k).1 (gUw ((μ 23) y) s a k).2 ∧ (gUw ((μ 23) y) s a k).1 ((μ 23) y + (a + k)) = s.1 ((μ 23) y + a) := by
  intro k
  induction k with
  | zero => intro _; exact ⟨hO, by rw [show a + ((0 : Nat) : Int) = a by omega]; rfl⟩
  | succ k ih =>
    intro hk
    have i := ih (by omega)
    refine ⟨iO_sw hG hL hN i.1 y0 y1 (by omega) (by omega), ?_⟩
    rw [← i.2]
    show (if _ then _ else _) = _
    rw [if_pos (by omega)]
/-- moving a vertex that stands at the place a to the place p -/
def gMv (st : Int) (s : GO) (a p : Int) : GO := if p < a then gDn st s a (a - p).toNat else gUw st s a (p - a).toNat
theorem iO_pl {μ : MU} {sq pl : Int → Int} {y v p : Int} (hO : iO μ sq pl) (y0 : 0 ≤ y) (y1 : y < (μ 9 1)) (p0 : 0 ≤ p) (p1 : (μ 23) y + p < (μ 23) (y + 1)) (h : sq ((μ 23) y + p) = v) : pl v = p := by
  have := hO.1 y y0 y1 ((μ 23) y + p) (by omega) p1
  rw [h] at this
  omega
theorem t_50 {D : Nat} (hD : 2 ≤ D) {μ : MU} {Q : GQ} {v p : Int} (hH0 : iH μ) (v0 : 0 ≤ v) (v1 : v < (μ 19 2)) (p0 : 0 ≤ p) (p1 : (μ 23) ((μ 21) v) + p < (μ 23) ((μ 21) v + 1)) (h : ∀ ν : MU, gFr [24, 25] μ ν → ((ν 24), (ν 25)) = gMv ((μ 23) ((μ 21) v)) ((μ 24), (μ 25)) ((μ 25) v) p → iH ν → (ν 25) v = p → Q none g_SH ν) : gCall g_T g_F sN sX D 50 [gR 19, gI v, gI p] g_SH μ Q := by
  have L := hH0.2.1.2.2.2.1
  have V := hH0.2.2.1.1
  have vv := iO_v hH0.1 hH0.2.1 hH0.2.2.1 hH0.2.2.2 v0 v1
  obtain ⟨⟨y0, y1⟩, ⟨a0, a1⟩, ⟨b0, b1, b2⟩, b3⟩ := vv
  have hD1 := gDn_o (s := ((μ 24), (μ 25))) hH0.1 hH0.2.1 hH0.2.2.1 hH0.2.2.2 y0 y1 b1
  have hU1 := gUw_o (s := ((μ 24), (μ 25))) hH0.1 hH0.2.1 hH0.2.2.1 hH0.2.2.2 y0 y1 a0
  generalize hy : (μ 21) v = y at *
  generalize ha : (μ 25) v = a at *
  obtain ⟨d, rfl⟩ := gD (show 1 ≤ D by omega)
  refine gC 300 [15] rfl ?_
  (conv => whnf); try simp only [gO, gWe, ne_eq, Nat.reduceEqDiff, not_false_eq_true, true_or, or_true, true_and]
  repeat' (first | exact True.intro | (refine ⟨fun hb => ?_, fun hb => ?_⟩ <;> first | (exfalso; omega; done) | exact absurd True.intro hb | ((conv => whnf); try simp only [gO, gWe, ne_eq, Nat.reduceEqDiff, not_false_eq_true, true_or, or_true, true_and])) | (refine ⟨by omega, ?_⟩; (conv => whnf); try simp only [gO, gWe, ne_eq, Nat.reduceEqDiff, not_false_eq_true, true_or, or_true, true_and]) | (refine ⟨fun hb => ?_, ?_⟩ <;> first | (exfalso; omega; done) | exact absurd True.intro hb | ((conv => whnf); try simp only [gO, gWe, ne_eq, Nat.reduceEqDiff, not_false_eq_true, true_or, or_true, true_and])) | fail)
  -- the second loop
  have up : ∀ q : Int, max a p - p + a ≤ q → q ≤ p → ∀ ν : MU, gFr [24, 25] μ ν → ((ν 24), (ν 25)) = gUw ((μ 23) y) ((μ 24), (μ 25)) a (q - a).toNat → a ≤ q → gG g_T g_F (gCall g_T g_F sN sX d) sN sX (g_T 50) Q 44 [gR 19, gI v, gI p, gI y, gI q] [] g_SH ν 0 0 := by
    refine g_up (fun q q0 q1 ih ν hν hs hq => ?_) (fun ν hν hs hq => ?_)
    · have s1 : hSt μ ν := hν.st (by decide)
      have o := hU1 (q - a).toNat (by omega)
      rw [← hs] at o
      have hI : iH ν := ⟨iG_c s1 hH0.1, iL_c s1 hH0.2.1, iN_c s1 hH0.2.2.1, iO_c s1 o.1⟩
      refine gB_gG [44] 300 ?_
      (conv => whnf); try simp only [gO, gWe, ne_eq, Nat.reduceEqDiff, not_false_eq_true, true_or, or_true, true_and]
      repeat' (first | exact True.intro | (refine ⟨fun hb => ?_, fun hb => ?_⟩ <;> first | (exfalso; omega; done) | exact absurd True.intro hb | ((conv => whnf); try simp only [gO, gWe, ne_eq, Nat.reduceEqDiff, not_false_eq_true, true_or, or_true, true_and])) | (refine ⟨by omega, ?_⟩; (conv => whnf); try simp only [gO, gWe, ne_eq, Nat.reduceEqDiff, not_false_eq_true, true_or, or_true, true_and]) | (refine ⟨fun hb => ?_, ?_⟩ <;> first | (exfalso; omega; done) | exact absurd True.intro hb | ((conv => whnf); try simp only [gO, gWe, ne_eq, Nat.reduceEqDiff, not_false_eq_true, true_or, or_true, true_and])) | fail)
      refine t_49 (by omega) hI y0 ?_ (by omega) ?_ (fun ρ hρ r1 r2 => ?_)
      · rw [s1 9 (by decide) (by decide)]; exact y1
      · rw [s1 23 (by decide) (by decide)]; omega
      (conv => whnf); try simp only [gO, gWe, ne_eq, Nat.reduceEqDiff, not_false_eq_true, true_or, or_true, true_and]
      repeat' (first | exact True.intro | (refine ⟨fun hb => ?_, fun hb => ?_⟩ <;> first | (exfalso; omega; done) | exact absurd True.intro hb | ((conv => whnf); try simp only [gO, gWe, ne_eq, Nat.reduceEqDiff, not_false_eq_true, true_or, or_true, true_and])) | (refine ⟨by omega, ?_⟩; (conv => whnf); try simp only [gO, gWe, ne_eq, Nat.reduceEqDiff, not_false_eq_true, true_or, or_true, true_and]) | (refine ⟨fun hb => ?_, ?_⟩ <;> first | (exfalso; omega; done) | exact absurd True.intro hb | ((conv => whnf); try simp only [gO, gWe, ne_eq, Nat.reduceEqDiff, not_false_eq_true, true_or, or_true, true_and])) | fail)
      refine ih ρ (hν.tr hρ) ?_ (by omega)
      rw [r1, r2, s1 23 (by decide) (by decide), show (q + 1 - a).toNat = (q - a).toNat + 1 by omega]
      show _ = sw _ _ _
      rw [← hs]
      show _ = (swS (ν 24) _, swP (ν 24) (ν 25) _ _)
      rw [show a + ((q - a).toNat : Int) = q by omega]
    · have s1 : hSt μ ν := hν.st (by decide)
      have o := hU1 (p - a).toNat (by omega)
      rw [← hs] at o
      have hI : iH ν := ⟨iG_c s1 hH0.1, iL_c s1 hH0.2.1, iN_c s1 hH0.2.2.1, iO_c s1 o.1⟩
      refine gB_gG [44] 300 ?_
      (conv => whnf); try simp only [gO, gWe, ne_eq, Nat.reduceEqDiff, not_false_eq_true, true_or, or_true, true_and]
      repeat' (first | exact True.intro | (refine ⟨fun hb => ?_, fun hb => ?_⟩ <;> first | (exfalso; omega; done) | exact absurd True.intro hb | ((conv => whnf); try simp only [gO, gWe, ne_eq, Nat.reduceEqDiff, not_false_eq_true, true_or, or_true, true_and])) | (refine ⟨by omega, ?_⟩; (conv => whnf); try simp only [gO, gWe, ne_eq, Nat.reduceEqDiff, not_false_eq_true, true_or, or_true, true_and]) | (refine ⟨fun hb => ?_, ?_⟩ <;> first | (exfalso; omega; done) | exact absurd True.intro hb | ((conv => whnf); try simp only [gO, gWe, ne_eq, Nat.reduceEqDiff, not_false_eq_true, true_or, or_true, true_and])) | fail)
      refine h ν hν ?_ hI ?_
      · rw [hs]
        unfold gMv
        rw [if_neg (by omega)]
      · refine iO_pl (y := y) o.1 y0 y1 p0 p1 ?_
        have := o.2
        rw [show a + ((p - a).toNat : Int) = p by omega] at this
        rw [this]
        exact b3
  have dn : ∀ q : Int, min a p ≤ q → q ≤ a → p ≤ a → ∀ ν : MU, gFr [24, 25] μ ν → ((ν 24), (ν 25)) = gDn ((μ 23) y) ((μ 24), (μ 25)) a (a - q).toNat → gG g_T g_F (gCall g_T g_F sN sX d) sN sX (g_T 50) Q 15 [gR 19, gI v, gI p, gI y, gI q] [] g_SH ν 0 0 := by
    refine g_dn (fun q q0 q1 ih hp ν hν hs => ?_) (fun hp ν hν hs => ?_)
    · have s1 : hSt μ ν := hν.st (by decide)
      have o := hD1 (a - q).toNat (by omega)
      rw [← hs] at o
      have hI : iH ν := ⟨iG_c s1 hH0.1, iL_c s1 hH0.2.1, iN_c s1 hH0.2.2.1, iO_c s1 o.1⟩
      refine gB_gG [15] 300 ?_
      (conv => whnf); try simp only [gO, gWe, ne_eq, Nat.reduceEqDiff, not_false_eq_true, true_or, or_true, true_and]
      repeat' (first | exact True.intro | (refine ⟨fun hb => ?_, fun hb => ?_⟩ <;> first | (exfalso; omega; done) | exact absurd True.intro hb | ((conv => whnf); try simp only [gO, gWe, ne_eq, Nat.reduceEqDiff, not_false_eq_true, true_or, or_true, true_and])) | (refine ⟨by omega, ?_⟩; (conv => whnf); try simp only [gO, gWe, ne_eq, Nat.reduceEqDiff, not_false_eq_true, true_or, or_true, true_and]) | (refine ⟨fun hb => ?_, ?_⟩ <;> first | (exfalso; omega; done) | exact absurd True.intro hb | ((conv => whnf); try simp only [gO, gWe, ne_eq, Nat.reduceEqDiff, not_false_eq_true, true_or, or_true, true_and])) | fail)
      refine t_49 (by omega) hI y0 ?_ ?_ ?_ (fun ρ hρ r1 r2 => ?_)
      · rw [s1 9 (by decide) (by decide)]; exact y1
      · omega
      · rw [s1 23 (by decide) (by decide)]; omega
      (conv => whnf); try simp only [gO, gWe, ne_eq, Nat.reduceEqDiff, not_false_eq_true, true_or, or_true, true_and]
      repeat' (first | exact True.intro | (refine ⟨fun hb => ?_, fun hb => ?_⟩ <;> first | (exfalso; omega; done) | exact absurd True.intro hb | ((conv => whnf); try simp only [gO, gWe, ne_eq, Nat.reduceEqDiff, not_false_eq_true, true_or, or_true, true_and])) | (refine ⟨by omega, ?_⟩; (conv => whnf); try simp only [gO, gWe, ne_eq, Nat.reduceEqDiff, not_false_eq_true, true_or, or_true, true_and]) | (refine ⟨fun hb => ?_, ?_⟩ <;> first | (exfalso; omega; done) | exact absurd True.intro hb | ((conv => whnf); try simp only [gO, gWe, ne_eq, Nat.reduceEqDiff, not_false_eq_true, true_or, or_true, true_and])) | fail)
      refine ih hp ρ (hν.tr hρ) ?_
      rw [r1, r2, s1 23 (by decide) (by decide), show (a - (q - 1)).toNat = (a - q).toNat + 1 by omega]
      show _ = sw _ _ _
      rw [← hs]
      show _ = (swS (ν 24) _, swP (ν 24) (ν 25) _ _)
      rw [show a - 1 - ((a - q).toNat : Int) = q - 1 by omega]
    · have s1 : hSt μ ν := hν.st (by decide)
      have o := hD1 (a - min a p).toNat (by omega)
      rw [← hs] at o
      have hI : iH ν := ⟨iG_c s1 hH0.1, iL_c s1 hH0.2.1, iN_c s1 hH0.2.2.1, iO_c s1 o.1⟩
      have pv : (ν 25) v = p := by
        refine iO_pl (y := y) o.1 y0 y1 p0 p1 ?_
        have := o.2
        rw [show a - ((a - min a p).toNat : Int) = p by omega] at this
        rw [this]
        exact b3
      refine gB_gG [15,44] 300 ?_
      (conv => whnf); try simp only [gO, gWe, ne_eq, Nat.reduceEqDiff, not_false_eq_true, true_or, or_true, true_and]
      repeat' (first | exact True.intro | (refine ⟨fun hb => ?_, fun hb => ?_⟩ <;> first | (exfalso; omega; done) | exact absurd True.intro hb | ((conv => whnf); try simp only [gO, gWe, ne_eq, Nat.reduceEqDiff, not_false_eq_true, true_or, or_true, true_and])) | (refine ⟨by omega, ?_⟩; (conv => whnf); try simp only [gO, gWe, ne_eq, Nat.reduceEqDiff, not_false_eq_true, true_or, or_true, true_and]) | (refine ⟨fun hb => ?_, ?_⟩ <;> first | (exfalso; omega; done) | exact absurd True.intro hb | ((conv => whnf); try simp only [gO, gWe, ne_eq, Nat.reduceEqDiff, not_false_eq_true, true_or, or_true, true_and])) | fail)
      rw [pv]
      by_cases hc : p = a
      · subst hc
        exact up _ (by omega) (by omega) ν hν (by rw [hs, show (p - min p p).toNat = 0 by omega, show (p - p).toNat = 0 by omega]; rfl) (by omega)
      · show gG g_T g_F (gCall g_T g_F sN sX d) sN sX (g_T 50) Q 44 [gR 19, gI v, gI p, gI y, gI p] [] g_SH ν 0 0
        refine gB_gG [] 300 ?_
        (conv => whnf); try simp only [gO, gWe, ne_eq, Nat.reduceEqDiff, not_false_eq_true, true_or, or_true, true_and]
        repeat' (first | exact True.intro | (refine ⟨fun hb => ?_, fun hb => ?_⟩ <;> first | (exfalso; omega; done) | exact absurd True.intro hb | ((conv => whnf); try simp only [gO, gWe, ne_eq, Nat.reduceEqDiff, not_false_eq_true, true_or, or_true, true_and])) | (refine ⟨by omega, ?_⟩; (conv => whnf); try simp only [gO, gWe, ne_eq, Nat.reduceEqDiff, not_false_eq_true, true_or, or_true, true_and]) | (refine ⟨fun hb => ?_, ?_⟩ <;> first | (exfalso; omega; done) | exact absurd True.intro hb | ((conv => whnf); try simp only [gO, gWe, ne_eq, Nat.reduceEqDiff, not_false_eq_true, true_or, or_true, true_and])) | fail)
        refine h ν hν ?_ hI pv
        rw [hs]
        unfold gMv
        rw [if_pos (by omega), show min a p = p by omega]
  show gG g_T g_F (gCall g_T g_F sN sX d) sN sX (g_T 50) Q 15 [gR 19, gI v, gI p, gI (μ 21 v), gI (μ 25 v)] [] g_SH μ 0 0
  rw [hy, ha]
  by_cases hc : p ≤ a
  · exact dn a (by omega) (by omega) hc μ gFr.rf (by rw [show (a - a).toNat = 0 by omega]; rfl)
  · refine gB_gG [44] 300 ?_
    (conv => whnf); try simp only [gO, gWe, ne_eq, Nat.reduceEqDiff, not_false_eq_true, true_or, or_true, true_and]
    repeat' (first | exact True.intro | (refine ⟨fun hb => ?_, fun hb => ?_⟩ <;> first | (exfalso; omega; done) | exact absurd True.intro hb | ((conv => whnf); try simp only [gO, gWe, ne_eq, Nat.reduceEqDiff, not_false_eq_true, true_or, or_true, true_and])) | (refine ⟨by omega, ?_⟩; (conv => whnf); try simp only [gO, gWe, ne_eq, Nat.reduceEqDiff, not_false_eq_true, true_or, or_true, true_and]) | (refine ⟨fun hb => ?_, ?_⟩ <;> first | (exfalso; omega; done) | exact absurd True.intro hb | ((conv => whnf); try simp only [gO, gWe, ne_eq, Nat.reduceEqDiff, not_false_eq_true, true_or, or_true, true_and])) | fail)
    show gG g_T g_F (gCall g_T g_F sN sX d) sN sX (g_T 50) Q 44 [gR 19, gI v, gI p, gI y, gI (μ 25 v)] [] g_SH μ 0 0
    rw [ha]
    exact up a (by omega) (by omega) μ gFr.rf (by rw [show (a - a).toNat = 0 by omega]; rfl) (by omega)
