variable {sN : Int} {sX : Int → Int}
/-! the law's sound -/
def iX (μ : MU) : Prop := ∀ y k : Int, 0 ≤ y → y < (μ 9 1) → (μ 23) y ≤ k → k + 1 < (μ 23) (y + 1) → (μ 34) ((μ 24) k) + xWd μ ((μ 24) k) + 1 ≤ (μ 34) ((μ 24) (k + 1))
def hLw (μ : MU) : Prop := ∀ i : Int, 0 ≤ i → i < (μ 1 0) → (μ 61) i = (μ 2) i ∧ (μ 62) i = (μ 3) i
theorem g_bit0 : ∀ b : Fin 16, gOr (b.val : Int) (gShl 1 0) = ((if b.val % 2 = 1 then b.val else b.val + 1 : Nat) : Int) := by decide +kernel
theorem g_bit0' {b : Int} (hb : 0 ≤ b ∧ b < 16) : (0 ≤ gOr b (gShl 1 0) ∧ gOr b (gShl 1 0) < 16) ∧ ∀ h : Int, gHas (gOr b (gShl 1 0)) h ↔ gHas b h := by
  have t := g_bit0 ⟨b.toNat, by omega⟩
  have e : ((b.toNat : Nat) : Int) = b := by omega
  dsimp only at t
  rw [e] at t
  have u : (gOr b (gShl 1 0) = b ∧ b % 2 = 1) ∨ (gOr b (gShl 1 0) = b + 1 ∧ b % 2 = 0) := by
    by_cases d : b.toNat % 2 = 1
    · rw [if_pos d] at t
      exact Or.inl ⟨by omega, by omega⟩
    · rw [if_neg d] at t
      exact Or.inr ⟨by omega, by omega⟩
  clear t
  generalize gOr b (gShl 1 0) = c at *
  refine ⟨by omega, fun h => ?_⟩
  unfold gHas
  omega
def hSn (μ : MU) (y p sn : Int) : Prop := (0 ≤ sn ∧ sn < 16) ∧ ∀ h : Int, 1 ≤ h → h ≤ 3 → (gHas sn h ↔ ∃ k : Int, (μ 23) y ≤ k ∧ k < (μ 23) y + p ∧ xGr μ ((μ 24) k) = h)
theorem hSn_s {μ : MU} {y p sn g : Int} (p0 : 0 ≤ p) (hs : hSn μ y p sn) (hg : xGr μ ((μ 24) ((μ 23) y + p)) = g) (g0 : 0 ≤ g ∧ g ≤ 3) : hSn μ y (p + 1) (gOr sn (gShl 1 g)) := by
  obtain ⟨b, hs⟩ := hs
  have ex : ∀ h : Int, ((∃ k : Int, (μ 23) y ≤ k ∧ k < (μ 23) y + (p + 1) ∧ xGr μ ((μ 24) k) = h) ↔ (∃ k : Int, (μ 23) y ≤ k ∧ k < (μ 23) y + p ∧ xGr μ ((μ 24) k) = h) ∨ h = g) := fun h => by
    constructor
    · rintro ⟨k, k0, k1, k2⟩
      by_cases c : k = (μ 23) y + p
      · subst c
        exact Or.inr (k2.symm.trans hg)
      · exact Or.inl ⟨k, k0, by omega, k2⟩
    · rintro (⟨k, k0, k1, k2⟩ | rfl)
      · exact ⟨k, k0, by omega, k2⟩
      · exact ⟨(μ 23) y + p, by omega, by omega, hg⟩
  by_cases c : g = 0
  · subst c
    have t := g_bit0' b
    refine ⟨t.1, fun h h0 h1 => ?_⟩
    rw [ex h, t.2 h, hs h h0 h1]
    constructor
    · exact Or.inl
    · rintro (q | q)
      · exact q
      · omega
  · have t := g_bit (b := sn) (g := g) b (by omega)
    refine ⟨t.2.2.1, fun h h0 h1 => ?_⟩
    rw [ex h, t.2.2.2 h h0 h1, hs h h0 h1]
theorem hMx_s {f : Int → Int} {k : Int} (k0 : 0 ≤ k) : hMx f (k + 1).toNat = max (hMx f k.toNat) (f k) := by
  rw [show (k + 1).toNat = k.toNat + 1 by omega]
  show max _ _ = _
  rw [show ((k.toNat : Nat) : Int) = k by omega]
def xCs (μ : MU) (y : Int) : Int := gSum (fun y => xCb μ (μ 25) y) (min y ((μ 9 1) - 1)).toNat
theorem r_128i {d : Nat} (hD : 32 ≤ d) {μ : MU} {Q : GQ} {y tot cs : Int} (hW : iW μ) (hw : hLw μ) (hx : iX μ) (y0 : 0 ≤ y) (y1 : y < (μ 9 1))
    (kk : ∀ (ν : MU) (rt : Int) (x8 x9 x10 x11 x12 x13 x14 : GV), hRd μ ν → rt = hMx (fun k => xRt μ ((μ 24) k)) ((μ 23) (y + 1)).toNat → gG g_T g_F (gCall g_T g_F sN sX d) sN sX (g_T 128) Q 113 [gR 0, gR 61, gR 62, gI 1, gI tot, gI cs, gI rt, gI (y + 1), x8, x9, x10, x11, x12, x13, x14] [] g_SH ν 0 0) : ∀ p : Int, 0 ≤ p → p ≤ (μ 23) (y + 1) - (μ 23) y → ∀ (ν : MU) (fr sn la rt : Int) (x12 x13 x14 : GV), hRd μ ν → fr = (if p = 0 then 0 else xRt μ ((μ 24) ((μ 23) y + p - 1)) + 1) → la = (if p = 0 then 0 else xGr μ ((μ 24) ((μ 23) y + p - 1))) → hSn μ y p sn → rt = hMx (fun k => xRt μ ((μ 24) k)) ((μ 23) y + p).toNat → gG g_T g_F (gCall g_T g_F sN sX d) sN sX (g_T 128) Q 164 [gR 0, gR 61, gR 62, gI 1, gI tot, gI cs, gI rt, gI y, gI fr, gI sn, gI la, gI p, x12, x13, x14] [] g_SH ν 0 0 := by
  have hG := hW.1.1
  have hL := hW.1.2.1
  obtain ⟨hN, hO, hC, hX⟩ := hW.1.2.2.2 hW.2
  have l1 := hW.2
  have G := hG.1
  have L := hL.2.2.2.1
  have V := hN.1
  have st := (iN_st hG hL hN).1 y y0 y1
  refine g_up (fun p p0 p1 ih ν fr sn la rt x12 x13 x14 hν hfr hla hsn hrt => ?_) (fun ν fr sn la rt x12 x13 x14 hν hfr hla hsn hrt => ?_)
  · have o := hO.1 y y0 y1 ((μ 23) y + p) (by omega) (by omega)
    have hl := hX _ o.1.1 o.1.2
    have hwd := xWd_b hG o.1.1
    have hgb := xGr_b hG o.1.1
    have hmn := hMx_0 (fun k => xRt μ ((μ 24) k)) ((μ 23) y + p).toNat
    have hml := hMx_l (f := fun k => xRt μ ((μ 24) k)) (B := 2000) (by omega) ((μ 23) y + p).toNat (fun i i0 i1 => by
      have a := iO_k hG hL hN hO i0 (show i < (μ 19 2) by omega)
      exact (xRt_b hG hX a.1.1 a.1.2).2)
    have hms := hMx_s (f := fun k => xRt μ ((μ 24) k)) (show 0 ≤ (μ 23) y + p by omega)
    have hrv : xRt μ ((μ 24) ((μ 23) y + p)) = (μ 34) ((μ 24) ((μ 23) y + p)) + xWd μ ((μ 24) ((μ 23) y + p)) := rfl
    have hsn' := hSn_s p0 hsn rfl hgb
    have c1 : fr ≤ (μ 34) ((μ 24) ((μ 23) y + p)) := by
      by_cases c : p = 0
      · rw [if_pos c] at hfr
        omega
      · rw [if_neg c] at hfr
        have a := hx y ((μ 23) y + p - 1) y0 y1 (by omega) (by omega)
        rw [show (μ 23) y + p - 1 + 1 = (μ 23) y + p by omega] at a
        unfold xRt at hfr
        omega
    have f0 : 0 ≤ fr := by
      by_cases c : p = 0
      · rw [if_pos c] at hfr
        omega
      · rw [if_neg c] at hfr
        have a := iO_k hG hL hN hO (k := (μ 23) y + p - 1) (by omega) (by omega)
        have := (xRt_b hG hX a.1.1 a.1.2).1
        omega
    have c2 : xGr μ ((μ 24) ((μ 23) y + p)) ≠ la → xGr μ ((μ 24) ((μ 23) y + p)) ≠ 0 → ¬ gHas sn (xGr μ ((μ 24) ((μ 23) y + p))) := by
      intro d1 d2 d3
      obtain ⟨k, k0, k1, k2⟩ := (hsn.2 _ (by omega) (by omega)).mp d3
      have pn : p ≠ 0 := by omega
      rw [if_neg pn] at hla
      by_cases ck : k = (μ 23) y + p - 1
      · rw [ck] at k2
        exact d1 (k2.symm.trans hla.symm)
      · have a := hC y y0 y1 k ((μ 23) y + p - 1) ((μ 23) y + p) k0 (by omega) (by omega) (by omega) (by rw [k2]; exact d2) k2
        exact d1 (k2.symm.trans (a.symm.trans hla.symm))
    have c3 := fun hg => g_bit (b := sn) (g := xGr μ ((μ 24) ((μ 23) y + p))) hsn.1 hg
    have nx := fun (rt' : Int) (x12 x13 x14 : GV) (hr : rt' = max rt (xRt μ ((μ 24) ((μ 23) y + p)))) => ih ν ((μ 34) ((μ 24) ((μ 23) y + p)) + xWd μ ((μ 24) ((μ 23) y + p)) + 1) (gOr sn (gShl 1 (xGr μ ((μ 24) ((μ 23) y + p))))) (xGr μ ((μ 24) ((μ 23) y + p))) rt' x12 x13 x14 hν (by rw [if_neg (by omega), show (μ 23) y + (p + 1) - 1 = (μ 23) y + p by omega]; rfl) (by rw [if_neg (by omega), show (μ 23) y + (p + 1) - 1 = (μ 23) y + p by omega]) hsn' (by rw [hr, hrt, show (μ 23) y + (p + 1) = (μ 23) y + p + 1 by omega]; exact hms.symm)
    clear ih kk hfr hla hsn' hms
    rw [← hrt] at hmn hml
    clear hrt
    obtain ⟨ov, oy, op⟩ := o
    rw [show (μ 23) y + p - (μ 23) y = p by omega] at op
    have nm := iW_nm hW ov.1 ov.2
    have tw := iN_two hG hL hN ov.1 ov.2
    generalize hv : (μ 24) ((μ 23) y + p) = v at *
    rw [hrv] at nx
    have c4 : xGr μ v ≠ la → xGr μ v ≠ 0 → gAnd (gShr sn (xGr μ v)) 1 = 0 := fun d1 d2 => by
      have a := c3 (by omega)
      rcases a.1 with b | b
      · exact b
      · exact absurd (a.2.1.mp b) (c2 d1 d2)
    clear c2 c3 hsn hrv
    have tail : ∀ x12 x13 : GV, ((μ 20) v < 100 → (0 ≤ (μ 20) v ∧ (μ 20) v < 12) ∧ ν 61 ((μ 20) v) = xWd μ v) → (100 ≤ (μ 20) v → xWd μ v = 1) → gG g_T g_F (gCall g_T g_F sN sX d) sN sX (g_T 128) Q 254 [gR 0, gR 61, gR 62, gI 1, gI tot, gI cs, gI rt, gI y, gI fr, gI sn, gI la, gI p, gI ((μ 20) v), gI ((μ 34) v), gI (xGr μ v)] [] g_SH ν 0 0 := by
      intro x12 x13 hn1 hn2
      clear c4 tw
      by_cases c100 : (μ 20) v < 100
      · obtain ⟨a1, a2⟩ := hn1 c100
        clear hn1 hn2
        by_cases cm : (μ 34) v + xWd μ v ≤ rt
        · have n2 := fun x12 x13 x14 => nx rt x12 x13 x14 (by omega)
          clear nx
          refine gB_gG [164] 300 ?_
          (conv => whnf); try simp only [gO, gWe, ne_eq, Nat.reduceEqDiff, not_false_eq_true, true_or, or_true, true_and]
          repeat' (first | exact True.intro | (refine ⟨fun hb => ?_, fun hb => ?_⟩ <;> first | (exfalso; omega; done) | exact absurd True.intro hb | ((conv => whnf); try simp only [gO, gWe, ne_eq, Nat.reduceEqDiff, not_false_eq_true, true_or, or_true, true_and])) | (refine ⟨by omega, ?_⟩; (conv => whnf); try simp only [gO, gWe, ne_eq, Nat.reduceEqDiff, not_false_eq_true, true_or, or_true, true_and]) | (refine ⟨fun hb => ?_, ?_⟩ <;> first | (exfalso; omega; done) | exact absurd True.intro hb | ((conv => whnf); try simp only [gO, gWe, ne_eq, Nat.reduceEqDiff, not_false_eq_true, true_or, or_true, true_and])) | fail)
          rw [a2]
          (conv => whnf); try simp only [gO, gWe, ne_eq, Nat.reduceEqDiff, not_false_eq_true, true_or, or_true, true_and]
          repeat' (first | exact True.intro | (refine ⟨fun hb => ?_, fun hb => ?_⟩ <;> first | (exfalso; omega; done) | exact absurd True.intro hb | ((conv => whnf); try simp only [gO, gWe, ne_eq, Nat.reduceEqDiff, not_false_eq_true, true_or, or_true, true_and])) | (refine ⟨by omega, ?_⟩; (conv => whnf); try simp only [gO, gWe, ne_eq, Nat.reduceEqDiff, not_false_eq_true, true_or, or_true, true_and]) | (refine ⟨fun hb => ?_, ?_⟩ <;> first | (exfalso; omega; done) | exact absurd True.intro hb | ((conv => whnf); try simp only [gO, gWe, ne_eq, Nat.reduceEqDiff, not_false_eq_true, true_or, or_true, true_and])) | fail)
          exact n2 _ _ _
        · have n2 := fun x12 x13 x14 => nx ((μ 34) v + xWd μ v + 1 - 1) x12 x13 x14 (by omega)
          clear nx
          refine gB_gG [164] 300 ?_
          (conv => whnf); try simp only [gO, gWe, ne_eq, Nat.reduceEqDiff, not_false_eq_true, true_or, or_true, true_and]
          repeat' (first | exact True.intro | (refine ⟨fun hb => ?_, fun hb => ?_⟩ <;> first | (exfalso; omega; done) | exact absurd True.intro hb | ((conv => whnf); try simp only [gO, gWe, ne_eq, Nat.reduceEqDiff, not_false_eq_true, true_or, or_true, true_and])) | (refine ⟨by omega, ?_⟩; (conv => whnf); try simp only [gO, gWe, ne_eq, Nat.reduceEqDiff, not_false_eq_true, true_or, or_true, true_and]) | (refine ⟨fun hb => ?_, ?_⟩ <;> first | (exfalso; omega; done) | exact absurd True.intro hb | ((conv => whnf); try simp only [gO, gWe, ne_eq, Nat.reduceEqDiff, not_false_eq_true, true_or, or_true, true_and])) | fail)
          rw [a2]
          (conv => whnf); try simp only [gO, gWe, ne_eq, Nat.reduceEqDiff, not_false_eq_true, true_or, or_true, true_and]
          repeat' (first | exact True.intro | (refine ⟨fun hb => ?_, fun hb => ?_⟩ <;> first | (exfalso; omega; done) | exact absurd True.intro hb | ((conv => whnf); try simp only [gO, gWe, ne_eq, Nat.reduceEqDiff, not_false_eq_true, true_or, or_true, true_and])) | (refine ⟨by omega, ?_⟩; (conv => whnf); try simp only [gO, gWe, ne_eq, Nat.reduceEqDiff, not_false_eq_true, true_or, or_true, true_and]) | (refine ⟨fun hb => ?_, ?_⟩ <;> first | (exfalso; omega; done) | exact absurd True.intro hb | ((conv => whnf); try simp only [gO, gWe, ne_eq, Nat.reduceEqDiff, not_false_eq_true, true_or, or_true, true_and])) | fail)
          exact n2 _ _ _
      · have a2 := hn2 (by omega)
        clear hn1 hn2
        rw [a2] at nx hwd
        by_cases cm : (μ 34) v + 1 ≤ rt
        · have n2 := fun x12 x13 x14 => nx rt x12 x13 x14 (by omega)
          clear nx
          refine gB_gG [164] 300 ?_
          (conv => whnf); try simp only [gO, gWe, ne_eq, Nat.reduceEqDiff, not_false_eq_true, true_or, or_true, true_and]
          repeat' (first | exact True.intro | (refine ⟨fun hb => ?_, fun hb => ?_⟩ <;> first | (exfalso; omega; done) | exact absurd True.intro hb | ((conv => whnf); try simp only [gO, gWe, ne_eq, Nat.reduceEqDiff, not_false_eq_true, true_or, or_true, true_and])) | (refine ⟨by omega, ?_⟩; (conv => whnf); try simp only [gO, gWe, ne_eq, Nat.reduceEqDiff, not_false_eq_true, true_or, or_true, true_and]) | (refine ⟨fun hb => ?_, ?_⟩ <;> first | (exfalso; omega; done) | exact absurd True.intro hb | ((conv => whnf); try simp only [gO, gWe, ne_eq, Nat.reduceEqDiff, not_false_eq_true, true_or, or_true, true_and])) | fail)
          exact n2 _ _ _
        · have n2 := fun x12 x13 x14 => nx ((μ 34) v + 1 + 1 - 1) x12 x13 x14 (by omega)
          clear nx
          refine gB_gG [164] 300 ?_
          (conv => whnf); try simp only [gO, gWe, ne_eq, Nat.reduceEqDiff, not_false_eq_true, true_or, or_true, true_and]
          repeat' (first | exact True.intro | (refine ⟨fun hb => ?_, fun hb => ?_⟩ <;> first | (exfalso; omega; done) | exact absurd True.intro hb | ((conv => whnf); try simp only [gO, gWe, ne_eq, Nat.reduceEqDiff, not_false_eq_true, true_or, or_true, true_and])) | (refine ⟨by omega, ?_⟩; (conv => whnf); try simp only [gO, gWe, ne_eq, Nat.reduceEqDiff, not_false_eq_true, true_or, or_true, true_and]) | (refine ⟨fun hb => ?_, ?_⟩ <;> first | (exfalso; omega; done) | exact absurd True.intro hb | ((conv => whnf); try simp only [gO, gWe, ne_eq, Nat.reduceEqDiff, not_false_eq_true, true_or, or_true, true_and])) | fail)
          exact n2 _ _ _
    clear nx
    have head : ∀ (B : Prop), ((μ 20) v < 100 → (0 ≤ (μ 20) v ∧ (μ 20) v < 12) ∧ ν 61 ((μ 20) v) = xWd μ v ∧ ν 62 ((μ 20) v) = xGr μ v) → (100 ≤ (μ 20) v → xWd μ v = 1 ∧ xGr μ v = 0) → gG g_T g_F (gCall g_T g_F sN sX d) sN sX (g_T 128) Q 164 [gR 0, gR 61, gR 62, gI 1, gI tot, gI cs, gI rt, gI y, gI fr, gI sn, gI la, gI p, x12, x13, x14] [] g_SH ν 0 0 := by
      intro _ hn1 hn2
      have tl := tail x12 x13 (fun c => ⟨(hn1 c).1, (hn1 c).2.1⟩) (fun c => (hn2 c).1)
      clear tail
      refine gB_gG [164,254] 300 ?_
      (conv => whnf); try simp only [gO, gWe, ne_eq, Nat.reduceEqDiff, not_false_eq_true, true_or, or_true, true_and]
      refine r_90 (by omega) hW hν y0 y1 ?_
      (conv => whnf); try simp only [gO, gWe, ne_eq, Nat.reduceEqDiff, not_false_eq_true, true_or, or_true, true_and]
      repeat' (first | exact True.intro | (refine ⟨fun hb => ?_, fun hb => ?_⟩ <;> first | (exfalso; omega; done) | exact absurd True.intro hb | ((conv => whnf); try simp only [gO, gWe, ne_eq, Nat.reduceEqDiff, not_false_eq_true, true_or, or_true, true_and])) | (refine ⟨by omega, ?_⟩; (conv => whnf); try simp only [gO, gWe, ne_eq, Nat.reduceEqDiff, not_false_eq_true, true_or, or_true, true_and]) | (refine ⟨fun hb => ?_, ?_⟩ <;> first | (exfalso; omega; done) | exact absurd True.intro hb | ((conv => whnf); try simp only [gO, gWe, ne_eq, Nat.reduceEqDiff, not_false_eq_true, true_or, or_true, true_and])) | fail)
      refine r_91 (by omega) hW hν y0 y1 p0 p1 ?_
      rw [hv]
      (conv => whnf); try simp only [gO, gWe, ne_eq, Nat.reduceEqDiff, not_false_eq_true, true_or, or_true, true_and]
      repeat' (first | exact True.intro | (refine ⟨fun hb => ?_, fun hb => ?_⟩ <;> first | (exfalso; omega; done) | exact absurd True.intro hb | ((conv => whnf); try simp only [gO, gWe, ne_eq, Nat.reduceEqDiff, not_false_eq_true, true_or, or_true, true_and])) | (refine ⟨by omega, ?_⟩; (conv => whnf); try simp only [gO, gWe, ne_eq, Nat.reduceEqDiff, not_false_eq_true, true_or, or_true, true_and]) | (refine ⟨fun hb => ?_, ?_⟩ <;> first | (exfalso; omega; done) | exact absurd True.intro hb | ((conv => whnf); try simp only [gO, gWe, ne_eq, Nat.reduceEqDiff, not_false_eq_true, true_or, or_true, true_and])) | fail)
      refine r_102 (by omega) hW hν ov.1 ov.2 ?_
      by_cases c100 : (μ 20) v < 100
      · obtain ⟨a1, a2, a3⟩ := hn1 c100
        clear hn1 hn2
        (conv => whnf); try simp only [gO, gWe, ne_eq, Nat.reduceEqDiff, not_false_eq_true, true_or, or_true, true_and]
        repeat' (first | exact True.intro | (refine ⟨fun hb => ?_, fun hb => ?_⟩ <;> first | (exfalso; omega; done) | exact absurd True.intro hb | ((conv => whnf); try simp only [gO, gWe, ne_eq, Nat.reduceEqDiff, not_false_eq_true, true_or, or_true, true_and])) | (refine ⟨by omega, ?_⟩; (conv => whnf); try simp only [gO, gWe, ne_eq, Nat.reduceEqDiff, not_false_eq_true, true_or, or_true, true_and]) | (refine ⟨fun hb => ?_, ?_⟩ <;> first | (exfalso; omega; done) | exact absurd True.intro hb | ((conv => whnf); try simp only [gO, gWe, ne_eq, Nat.reduceEqDiff, not_false_eq_true, true_or, or_true, true_and])) | fail)
        rw [a3]
        (conv => whnf); try simp only [gO, gWe, ne_eq, Nat.reduceEqDiff, not_false_eq_true, true_or, or_true, true_and]
        repeat' (first | exact True.intro | (refine ⟨fun hb => ?_, fun hb => ?_⟩ <;> first | (exfalso; omega; done) | exact absurd True.intro hb | ((conv => whnf); try simp only [gO, gWe, ne_eq, Nat.reduceEqDiff, not_false_eq_true, true_or, or_true, true_and])) | (refine ⟨by omega, ?_⟩; (conv => whnf); try simp only [gO, gWe, ne_eq, Nat.reduceEqDiff, not_false_eq_true, true_or, or_true, true_and]) | (refine ⟨fun hb => ?_, ?_⟩ <;> first | (exfalso; omega; done) | exact absurd True.intro hb | ((conv => whnf); try simp only [gO, gWe, ne_eq, Nat.reduceEqDiff, not_false_eq_true, true_or, or_true, true_and])) | fail)
        refine r_92 (by omega) hW hν ov.1 ov.2 ?_
        (conv => whnf); try simp only [gO, gWe, ne_eq, Nat.reduceEqDiff, not_false_eq_true, true_or, or_true, true_and]
        repeat' (first | exact True.intro | (refine ⟨fun hb => ?_, fun hb => ?_⟩ <;> first | (exfalso; omega; done) | exact absurd True.intro hb | ((conv => whnf); try simp only [gO, gWe, ne_eq, Nat.reduceEqDiff, not_false_eq_true, true_or, or_true, true_and])) | (refine ⟨by omega, ?_⟩; (conv => whnf); try simp only [gO, gWe, ne_eq, Nat.reduceEqDiff, not_false_eq_true, true_or, or_true, true_and]) | (refine ⟨fun hb => ?_, ?_⟩ <;> first | (exfalso; omega; done) | exact absurd True.intro hb | ((conv => whnf); try simp only [gO, gWe, ne_eq, Nat.reduceEqDiff, not_false_eq_true, true_or, or_true, true_and])) | fail)
        all_goals first | exact tl | (exfalso; omega) | skip
      · obtain ⟨a2, a3⟩ := hn2 (by omega)
        clear hn1 hn2
        rw [a3] at tl c4 hgb
        (conv => whnf); try simp only [gO, gWe, ne_eq, Nat.reduceEqDiff, not_false_eq_true, true_or, or_true, true_and]
        repeat' (first | exact True.intro | (refine ⟨fun hb => ?_, fun hb => ?_⟩ <;> first | (exfalso; omega; done) | exact absurd True.intro hb | ((conv => whnf); try simp only [gO, gWe, ne_eq, Nat.reduceEqDiff, not_false_eq_true, true_or, or_true, true_and])) | (refine ⟨by omega, ?_⟩; (conv => whnf); try simp only [gO, gWe, ne_eq, Nat.reduceEqDiff, not_false_eq_true, true_or, or_true, true_and]) | (refine ⟨fun hb => ?_, ?_⟩ <;> first | (exfalso; omega; done) | exact absurd True.intro hb | ((conv => whnf); try simp only [gO, gWe, ne_eq, Nat.reduceEqDiff, not_false_eq_true, true_or, or_true, true_and])) | fail)
        refine r_92 (by omega) hW hν ov.1 ov.2 ?_
        (conv => whnf); try simp only [gO, gWe, ne_eq, Nat.reduceEqDiff, not_false_eq_true, true_or, or_true, true_and]
        repeat' (first | exact True.intro | (refine ⟨fun hb => ?_, fun hb => ?_⟩ <;> first | (exfalso; omega; done) | exact absurd True.intro hb | ((conv => whnf); try simp only [gO, gWe, ne_eq, Nat.reduceEqDiff, not_false_eq_true, true_or, or_true, true_and])) | (refine ⟨by omega, ?_⟩; (conv => whnf); try simp only [gO, gWe, ne_eq, Nat.reduceEqDiff, not_false_eq_true, true_or, or_true, true_and]) | (refine ⟨fun hb => ?_, ?_⟩ <;> first | (exfalso; omega; done) | exact absurd True.intro hb | ((conv => whnf); try simp only [gO, gWe, ne_eq, Nat.reduceEqDiff, not_false_eq_true, true_or, or_true, true_and])) | fail)
        all_goals first | exact tl | (exfalso; omega) | skip
    rcases tw with ⟨a1, a2, -⟩ | ⟨a0, e, yy, e0, e1, z0, z1, hv', a1, -, y2, -⟩
    · have b := hw v ov.1 a1
      refine head True (fun _ => ?_) (fun _ => by omega)
      rw [a2, hν 61 (by decide), hν 62 (by decide), b.1, b.2]
      unfold xWd xGr
      rw [if_pos a1, if_pos a1]
      exact ⟨by omega, rfl, rfl⟩
    · refine head True (fun _ => by omega) (fun _ => ?_)
      unfold xWd xGr
      rw [if_neg (by omega), if_neg (by omega)]
      exact ⟨rfl, rfl⟩
  · have e : (μ 23) y + ((μ 23) (y + 1) - (μ 23) y) = (μ 23) (y + 1) := by omega
    rw [e] at hrt
    have n2 := kk ν rt (gI fr) (gI sn) (gI la) (gI ((μ 23) (y + 1) - (μ 23) y)) x12 x13 x14 hν hrt
    clear kk hsn hfr hla hrt
    refine gB_gG [113] 300 ?_
    (conv => whnf); try simp only [gO, gWe, ne_eq, Nat.reduceEqDiff, not_false_eq_true, true_or, or_true, true_and]
    repeat' (first | exact True.intro | (refine ⟨fun hb => ?_, fun hb => ?_⟩ <;> first | (exfalso; omega; done) | exact absurd True.intro hb | ((conv => whnf); try simp only [gO, gWe, ne_eq, Nat.reduceEqDiff, not_false_eq_true, true_or, or_true, true_and])) | (refine ⟨by omega, ?_⟩; (conv => whnf); try simp only [gO, gWe, ne_eq, Nat.reduceEqDiff, not_false_eq_true, true_or, or_true, true_and]) | (refine ⟨fun hb => ?_, ?_⟩ <;> first | (exfalso; omega; done) | exact absurd True.intro hb | ((conv => whnf); try simp only [gO, gWe, ne_eq, Nat.reduceEqDiff, not_false_eq_true, true_or, or_true, true_and])) | fail)
    refine r_90 (by omega) hW hν y0 y1 ?_
    (conv => whnf); try simp only [gO, gWe, ne_eq, Nat.reduceEqDiff, not_false_eq_true, true_or, or_true, true_and]
    repeat' (first | exact True.intro | (refine ⟨fun hb => ?_, fun hb => ?_⟩ <;> first | (exfalso; omega; done) | exact absurd True.intro hb | ((conv => whnf); try simp only [gO, gWe, ne_eq, Nat.reduceEqDiff, not_false_eq_true, true_or, or_true, true_and])) | (refine ⟨by omega, ?_⟩; (conv => whnf); try simp only [gO, gWe, ne_eq, Nat.reduceEqDiff, not_false_eq_true, true_or, or_true, true_and]) | (refine ⟨fun hb => ?_, ?_⟩ <;> first | (exfalso; omega; done) | exact absurd True.intro hb | ((conv => whnf); try simp only [gO, gWe, ne_eq, Nat.reduceEqDiff, not_false_eq_true, true_or, or_true, true_and])) | fail)
    exact n2
theorem xCs_s {μ : MU} {y : Int} (y0 : 0 ≤ y) (y1 : y < (μ 9 1)) : xCs μ (y + 1) = xCs μ y + (if y + 1 < (μ 9 1) then xCb μ (μ 25) y else 0) := by
  unfold xCs
  by_cases c : y + 1 < (μ 9 1)
  · rw [if_pos c, show min (y + 1) ((μ 9 1) - 1) = y + 1 by omega, show min y ((μ 9 1) - 1) = y by omega, gSum_s _ y y0]
  · rw [if_neg c, show min (y + 1) ((μ 9 1) - 1) = min y ((μ 9 1) - 1) by omega, Int.add_zero]
theorem r_128y {d : Nat} (hD : 32 ≤ d) {μ : MU} {Q : GQ} {tot : Int} (hW : iW μ) (hw : hLw μ) (hx : iX μ)
    (kk : ∀ (ν : MU) (x7 x8 x9 x10 x11 x12 x13 x14 : GV), hRd μ ν → gG g_T g_F (gCall g_T g_F sN sX d) sN sX (g_T 128) Q 327 [gR 0, gR 61, gR 62, gI 1, gI tot, gI (xCs μ (μ 9 1)), gI (hMx (fun k => xRt μ ((μ 24) k)) (μ 19 2).toNat), x7, x8, x9, x10, x11, x12, x13, x14] [] g_SH ν 0 0) : ∀ y : Int, 0 ≤ y → y ≤ (μ 9 1) → ∀ (ν : MU) (rt : Int) (x8 x9 x10 x11 x12 x13 x14 : GV), hRd μ ν → rt = hMx (fun k => xRt μ ((μ 24) k)) ((μ 23) y).toNat → gG g_T g_F (gCall g_T g_F sN sX d) sN sX (g_T 128) Q 113 [gR 0, gR 61, gR 62, gI 1, gI tot, gI (xCs μ y), gI rt, gI y, x8, x9, x10, x11, x12, x13, x14] [] g_SH ν 0 0 := by
  have hG := hW.1.1
  have hL := hW.1.2.1
  obtain ⟨hN, hO, hC, hX⟩ := hW.1.2.2.2 hW.2
  have l1 := hW.2
  have G := hG.1
  have L := hL.2.2.2.1
  have V := hN.1
  refine g_up (fun y y0 y1 ih ν rt x8 x9 x10 x11 x12 x13 x14 hν hrt => ?_) (fun ν rt x8 x9 x10 x11 x12 x13 x14 hν hrt => ?_)
  · have st := (iN_st hG hL hN).1 y y0 y1
    have cb := xCb_b (pl := (μ 25)) hG y
    have ca := xCa_b (pl := (μ 25)) hG (min y ((μ 9 1) - 1)).toNat
    have ca' : 0 ≤ xCs μ y ∧ xCs μ y ≤ 13600 := by
      unfold xCs
      omega
    rw [xCs_s y0 y1] at ih
    have inn := r_128i (tot := tot) (cs := xCs μ y + (if y + 1 < (μ 9 1) then xCb μ (μ 25) y else 0)) hD hW hw hx y0 y1 (Q := Q) (sN := sN) (sX := sX) (fun ν rt x8 x9 x10 x11 x12 x13 x14 hν hr => ih ν rt x8 x9 x10 x11 x12 x13 x14 hν hr) 0 (by omega) (by omega)
    have i2 := fun ν hν x12 x13 x14 => inn ν 0 0 0 rt x12 x13 x14 hν (if_pos rfl).symm (if_pos rfl).symm ⟨by omega, fun h h0 h1 => ⟨fun q => by
      unfold gHas at q
      omega, fun ⟨k, k0, k1, _⟩ => by omega⟩⟩ (by rw [Int.add_zero]; exact hrt)
    clear inn ih hrt
    by_cases c : y + 1 < (μ 9 1)
    · rw [if_pos c] at i2
      refine gB_gG [164] 300 ?_
      (conv => whnf); try simp only [gO, gWe, ne_eq, Nat.reduceEqDiff, not_false_eq_true, true_or, or_true, true_and]
      refine r_88 (by omega) hν ?_
      (conv => whnf); try simp only [gO, gWe, ne_eq, Nat.reduceEqDiff, not_false_eq_true, true_or, or_true, true_and]
      repeat' (first | exact True.intro | (refine ⟨fun hb => ?_, fun hb => ?_⟩ <;> first | (exfalso; omega; done) | exact absurd True.intro hb | ((conv => whnf); try simp only [gO, gWe, ne_eq, Nat.reduceEqDiff, not_false_eq_true, true_or, or_true, true_and])) | (refine ⟨by omega, ?_⟩; (conv => whnf); try simp only [gO, gWe, ne_eq, Nat.reduceEqDiff, not_false_eq_true, true_or, or_true, true_and]) | (refine ⟨fun hb => ?_, ?_⟩ <;> first | (exfalso; omega; done) | exact absurd True.intro hb | ((conv => whnf); try simp only [gO, gWe, ne_eq, Nat.reduceEqDiff, not_false_eq_true, true_or, or_true, true_and])) | fail)
      refine r_88 (by omega) hν ?_
      (conv => whnf); try simp only [gO, gWe, ne_eq, Nat.reduceEqDiff, not_false_eq_true, true_or, or_true, true_and]
      repeat' (first | exact True.intro | (refine ⟨fun hb => ?_, fun hb => ?_⟩ <;> first | (exfalso; omega; done) | exact absurd True.intro hb | ((conv => whnf); try simp only [gO, gWe, ne_eq, Nat.reduceEqDiff, not_false_eq_true, true_or, or_true, true_and])) | (refine ⟨by omega, ?_⟩; (conv => whnf); try simp only [gO, gWe, ne_eq, Nat.reduceEqDiff, not_false_eq_true, true_or, or_true, true_and]) | (refine ⟨fun hb => ?_, ?_⟩ <;> first | (exfalso; omega; done) | exact absurd True.intro hb | ((conv => whnf); try simp only [gO, gWe, ne_eq, Nat.reduceEqDiff, not_false_eq_true, true_or, or_true, true_and])) | fail)
      refine r_93 (by omega) hW hν y0 (by omega) (fun ρ hρ => ?_)
      (conv => whnf); try simp only [gO, gWe, ne_eq, Nat.reduceEqDiff, not_false_eq_true, true_or, or_true, true_and]
      repeat' (first | exact True.intro | (refine ⟨fun hb => ?_, fun hb => ?_⟩ <;> first | (exfalso; omega; done) | exact absurd True.intro hb | ((conv => whnf); try simp only [gO, gWe, ne_eq, Nat.reduceEqDiff, not_false_eq_true, true_or, or_true, true_and])) | (refine ⟨by omega, ?_⟩; (conv => whnf); try simp only [gO, gWe, ne_eq, Nat.reduceEqDiff, not_false_eq_true, true_or, or_true, true_and]) | (refine ⟨fun hb => ?_, ?_⟩ <;> first | (exfalso; omega; done) | exact absurd True.intro hb | ((conv => whnf); try simp only [gO, gWe, ne_eq, Nat.reduceEqDiff, not_false_eq_true, true_or, or_true, true_and])) | fail)
      exact i2 ρ hρ _ _ _
    · rw [if_neg c] at i2
      refine gB_gG [164] 300 ?_
      (conv => whnf); try simp only [gO, gWe, ne_eq, Nat.reduceEqDiff, not_false_eq_true, true_or, or_true, true_and]
      refine r_88 (by omega) hν ?_
      (conv => whnf); try simp only [gO, gWe, ne_eq, Nat.reduceEqDiff, not_false_eq_true, true_or, or_true, true_and]
      repeat' (first | exact True.intro | (refine ⟨fun hb => ?_, fun hb => ?_⟩ <;> first | (exfalso; omega; done) | exact absurd True.intro hb | ((conv => whnf); try simp only [gO, gWe, ne_eq, Nat.reduceEqDiff, not_false_eq_true, true_or, or_true, true_and])) | (refine ⟨by omega, ?_⟩; (conv => whnf); try simp only [gO, gWe, ne_eq, Nat.reduceEqDiff, not_false_eq_true, true_or, or_true, true_and]) | (refine ⟨fun hb => ?_, ?_⟩ <;> first | (exfalso; omega; done) | exact absurd True.intro hb | ((conv => whnf); try simp only [gO, gWe, ne_eq, Nat.reduceEqDiff, not_false_eq_true, true_or, or_true, true_and])) | fail)
      refine r_88 (by omega) hν ?_
      (conv => whnf); try simp only [gO, gWe, ne_eq, Nat.reduceEqDiff, not_false_eq_true, true_or, or_true, true_and]
      repeat' (first | exact True.intro | (refine ⟨fun hb => ?_, fun hb => ?_⟩ <;> first | (exfalso; omega; done) | exact absurd True.intro hb | ((conv => whnf); try simp only [gO, gWe, ne_eq, Nat.reduceEqDiff, not_false_eq_true, true_or, or_true, true_and])) | (refine ⟨by omega, ?_⟩; (conv => whnf); try simp only [gO, gWe, ne_eq, Nat.reduceEqDiff, not_false_eq_true, true_or, or_true, true_and]) | (refine ⟨fun hb => ?_, ?_⟩ <;> first | (exfalso; omega; done) | exact absurd True.intro hb | ((conv => whnf); try simp only [gO, gWe, ne_eq, Nat.reduceEqDiff, not_false_eq_true, true_or, or_true, true_and])) | fail)
      exact i2 ν hν _ _ _
  · have v := hN.2.2.2.2.2.2.1
    rw [v] at hrt
    subst hrt
    have n2 := kk ν (gI (μ 9 1)) x8 x9 x10 x11 x12 x13 x14 hν
    clear kk
    refine gB_gG [327] 300 ?_
    (conv => whnf); try simp only [gO, gWe, ne_eq, Nat.reduceEqDiff, not_false_eq_true, true_or, or_true, true_and]
    refine r_88 (by omega) hν ?_
    (conv => whnf); try simp only [gO, gWe, ne_eq, Nat.reduceEqDiff, not_false_eq_true, true_or, or_true, true_and]
    repeat' (first | exact True.intro | (refine ⟨fun hb => ?_, fun hb => ?_⟩ <;> first | (exfalso; omega; done) | exact absurd True.intro hb | ((conv => whnf); try simp only [gO, gWe, ne_eq, Nat.reduceEqDiff, not_false_eq_true, true_or, or_true, true_and])) | (refine ⟨by omega, ?_⟩; (conv => whnf); try simp only [gO, gWe, ne_eq, Nat.reduceEqDiff, not_false_eq_true, true_or, or_true, true_and]) | (refine ⟨fun hb => ?_, ?_⟩ <;> first | (exfalso; omega; done) | exact absurd True.intro hb | ((conv => whnf); try simp only [gO, gWe, ne_eq, Nat.reduceEqDiff, not_false_eq_true, true_or, or_true, true_and])) | fail)
    exact n2
theorem r_128 {D : Nat} (hD : 34 ≤ D) {μ ν : MU} {Q : GQ} (hW : iW μ) (hw : hLw μ) (hx : iX μ) (hν : hRd μ ν) (h : ∀ ρ : MU, hRd μ ρ → Q (some (gI (1))) g_SH ρ) : gCall g_T g_F sN sX D 128 [gR 0, gR 61, gR 62] g_SH ν Q := by
  have hG := hW.1.1
  have hL := hW.1.2.1
  obtain ⟨hN, hO, hC, hX⟩ := hW.1.2.2.2 hW.2
  have l1 := hW.2
  have G := hG.1
  have L := hL.2.2.2.1
  have V := hN.1
  obtain ⟨d, rfl⟩ := gD (show 1 ≤ D by omega)
  have lp := r_128y (d := d) (tot := xTot μ) (Q := Q) (sN := sN) (sX := sX) (by omega) hW hw hx (fun ν x7 x8 x9 x10 x11 x12 x13 x14 hν => by
    have e1 : xCs μ (μ 9 1) = xCa μ (μ 25) := by
      unfold xCs xCa
      rw [show min (μ 9 1) ((μ 9 1) - 1) = (μ 9 1) - 1 by omega]
    rw [e1, hMx_p hG hL hN (f := xRt μ) hO]
    refine gB_gG [] 300 ?_
    (conv => whnf); try simp only [gO, gWe, ne_eq, Nat.reduceEqDiff, not_false_eq_true, true_or, or_true, true_and]
    repeat' (first | exact True.intro | (refine ⟨fun hb => ?_, fun hb => ?_⟩ <;> first | (exfalso; omega; done) | exact absurd True.intro hb | ((conv => whnf); try simp only [gO, gWe, ne_eq, Nat.reduceEqDiff, not_false_eq_true, true_or, or_true, true_and])) | (refine ⟨by omega, ?_⟩; (conv => whnf); try simp only [gO, gWe, ne_eq, Nat.reduceEqDiff, not_false_eq_true, true_or, or_true, true_and]) | (refine ⟨fun hb => ?_, ?_⟩ <;> first | (exfalso; omega; done) | exact absurd True.intro hb | ((conv => whnf); try simp only [gO, gWe, ne_eq, Nat.reduceEqDiff, not_false_eq_true, true_or, or_true, true_and])) | fail)
    refine r_87 (by omega) hW hν ?_
    (conv => whnf); try simp only [gO, gWe, ne_eq, Nat.reduceEqDiff, not_false_eq_true, true_or, or_true, true_and]
    repeat' (first | exact True.intro | (refine ⟨fun hb => ?_, fun hb => ?_⟩ <;> first | (exfalso; omega; done) | exact absurd True.intro hb | ((conv => whnf); try simp only [gO, gWe, ne_eq, Nat.reduceEqDiff, not_false_eq_true, true_or, or_true, true_and])) | (refine ⟨by omega, ?_⟩; (conv => whnf); try simp only [gO, gWe, ne_eq, Nat.reduceEqDiff, not_false_eq_true, true_or, or_true, true_and]) | (refine ⟨fun hb => ?_, ?_⟩ <;> first | (exfalso; omega; done) | exact absurd True.intro hb | ((conv => whnf); try simp only [gO, gWe, ne_eq, Nat.reduceEqDiff, not_false_eq_true, true_or, or_true, true_and])) | fail)
    all_goals first | exact absurd rfl hb | skip
    refine r_94 (by omega) hW hν (fun ρ hρ => ?_)
    have f := h ρ hρ
    (conv => whnf); try simp only [gO, gWe, ne_eq, Nat.reduceEqDiff, not_false_eq_true, true_or, or_true, true_and]
    repeat' (first | exact True.intro | (refine ⟨fun hb => ?_, fun hb => ?_⟩ <;> first | (exfalso; omega; done) | exact absurd True.intro hb | ((conv => whnf); try simp only [gO, gWe, ne_eq, Nat.reduceEqDiff, not_false_eq_true, true_or, or_true, true_and])) | (refine ⟨by omega, ?_⟩; (conv => whnf); try simp only [gO, gWe, ne_eq, Nat.reduceEqDiff, not_false_eq_true, true_or, or_true, true_and]) | (refine ⟨fun hb => ?_, ?_⟩ <;> first | (exfalso; omega; done) | exact absurd True.intro hb | ((conv => whnf); try simp only [gO, gWe, ne_eq, Nat.reduceEqDiff, not_false_eq_true, true_or, or_true, true_and])) | fail)
    all_goals first | exact absurd rfl hb | skip
    refine r_103 (by omega) hW hρ ?_
    (conv => whnf); try simp only [gO, gWe, ne_eq, Nat.reduceEqDiff, not_false_eq_true, true_or, or_true, true_and]
    repeat' (first | exact True.intro | (refine ⟨fun hb => ?_, fun hb => ?_⟩ <;> first | (exfalso; omega; done) | exact absurd True.intro hb | ((conv => whnf); try simp only [gO, gWe, ne_eq, Nat.reduceEqDiff, not_false_eq_true, true_or, or_true, true_and])) | (refine ⟨by omega, ?_⟩; (conv => whnf); try simp only [gO, gWe, ne_eq, Nat.reduceEqDiff, not_false_eq_true, true_or, or_true, true_and]) | (refine ⟨fun hb => ?_, ?_⟩ <;> first | (exfalso; omega; done) | exact absurd True.intro hb | ((conv => whnf); try simp only [gO, gWe, ne_eq, Nat.reduceEqDiff, not_false_eq_true, true_or, or_true, true_and])) | fail)
    all_goals first | exact absurd rfl hb | skip
    refine r_129 (by omega) hW hρ ?_
    rw [xPr_e]
    (conv => whnf); try simp only [gO, gWe, ne_eq, Nat.reduceEqDiff, not_false_eq_true, true_or, or_true, true_and]
    repeat' (first | exact True.intro | (refine ⟨fun hb => ?_, fun hb => ?_⟩ <;> first | (exfalso; omega; done) | exact absurd True.intro hb | ((conv => whnf); try simp only [gO, gWe, ne_eq, Nat.reduceEqDiff, not_false_eq_true, true_or, or_true, true_and])) | (refine ⟨by omega, ?_⟩; (conv => whnf); try simp only [gO, gWe, ne_eq, Nat.reduceEqDiff, not_false_eq_true, true_or, or_true, true_and]) | (refine ⟨fun hb => ?_, ?_⟩ <;> first | (exfalso; omega; done) | exact absurd True.intro hb | ((conv => whnf); try simp only [gO, gWe, ne_eq, Nat.reduceEqDiff, not_false_eq_true, true_or, or_true, true_and])) | fail)
    all_goals first | exact absurd rfl hb | skip
    refine r_130 (by omega) hW hρ ?_
    (conv => whnf); try simp only [gO, gWe, ne_eq, Nat.reduceEqDiff, not_false_eq_true, true_or, or_true, true_and]
    repeat' (first | exact True.intro | (refine ⟨fun hb => ?_, fun hb => ?_⟩ <;> first | (exfalso; omega; done) | exact absurd True.intro hb | ((conv => whnf); try simp only [gO, gWe, ne_eq, Nat.reduceEqDiff, not_false_eq_true, true_or, or_true, true_and])) | (refine ⟨by omega, ?_⟩; (conv => whnf); try simp only [gO, gWe, ne_eq, Nat.reduceEqDiff, not_false_eq_true, true_or, or_true, true_and]) | (refine ⟨fun hb => ?_, ?_⟩ <;> first | (exfalso; omega; done) | exact absurd True.intro hb | ((conv => whnf); try simp only [gO, gWe, ne_eq, Nat.reduceEqDiff, not_false_eq_true, true_or, or_true, true_and])) | fail)
    exact f) 0 (by omega) (by omega)
  have z := hN.2.2.2.2.2.1
  have lp0 := fun ν hν x8 x9 x10 x11 x12 x13 x14 => lp ν 0 x8 x9 x10 x11 x12 x13 x14 hν (by rw [z]; rfl)
  have z0 : xCs μ 0 = 0 := by
    unfold xCs
    rw [show (min 0 ((μ 9 1) - 1)).toNat = 0 by omega]
    rfl
  rw [z0] at lp0
  clear lp
  refine gC 300 [14] rfl ?_
  (conv => whnf); try simp only [gO, gWe, ne_eq, Nat.reduceEqDiff, not_false_eq_true, true_or, or_true, true_and]
  have key : ∀ e : Int, 0 ≤ e → e ≤ (μ 1 1) → gG g_T g_F (gCall g_T g_F sN sX d) sN sX (g_T 128) Q 14 [gR 0, gR 61, gR 62, gI 1, gI (gSum (fun e => (μ 15) e - (μ 14) e) e.toNat), gI 0, gI 0, gI e, gN 2, gN 2, gN 2, gN 2, gN 2, gN 2, gN 2] [] g_SH ν 0 0 := by
    refine g_up (fun e e0 e1 ih => ?_) ?_
    · have E := iE hG hL e0 e1
      have b := xTot_b hG hL e0 (show e ≤ (μ 1 1) by omega)
      have t3 := (hL.2.1 e e0 e1).2.2
      rw [gSum_s _ e e0] at ih
      clear lp0
      refine gB_gG [14] 300 ?_
      (conv => whnf); try simp only [gO, gWe, ne_eq, Nat.reduceEqDiff, not_false_eq_true, true_or, or_true, true_and]
      refine r_81 (by omega) hν ?_
      (conv => whnf); try simp only [gO, gWe, ne_eq, Nat.reduceEqDiff, not_false_eq_true, true_or, or_true, true_and]
      repeat' (first | exact True.intro | (refine ⟨fun hb => ?_, fun hb => ?_⟩ <;> first | (exfalso; omega; done) | exact absurd True.intro hb | ((conv => whnf); try simp only [gO, gWe, ne_eq, Nat.reduceEqDiff, not_false_eq_true, true_or, or_true, true_and])) | (refine ⟨by omega, ?_⟩; (conv => whnf); try simp only [gO, gWe, ne_eq, Nat.reduceEqDiff, not_false_eq_true, true_or, or_true, true_and]) | (refine ⟨fun hb => ?_, ?_⟩ <;> first | (exfalso; omega; done) | exact absurd True.intro hb | ((conv => whnf); try simp only [gO, gWe, ne_eq, Nat.reduceEqDiff, not_false_eq_true, true_or, or_true, true_and])) | fail)
      refine e_len (by omega) hW hν e0 e1 ?_
      (conv => whnf); try simp only [gO, gWe, ne_eq, Nat.reduceEqDiff, not_false_eq_true, true_or, or_true, true_and]
      repeat' (first | exact True.intro | (refine ⟨fun hb => ?_, fun hb => ?_⟩ <;> first | (exfalso; omega; done) | exact absurd True.intro hb | ((conv => whnf); try simp only [gO, gWe, ne_eq, Nat.reduceEqDiff, not_false_eq_true, true_or, or_true, true_and])) | (refine ⟨by omega, ?_⟩; (conv => whnf); try simp only [gO, gWe, ne_eq, Nat.reduceEqDiff, not_false_eq_true, true_or, or_true, true_and]) | (refine ⟨fun hb => ?_, ?_⟩ <;> first | (exfalso; omega; done) | exact absurd True.intro hb | ((conv => whnf); try simp only [gO, gWe, ne_eq, Nat.reduceEqDiff, not_false_eq_true, true_or, or_true, true_and])) | fail)
      refine e_len (by omega) hW hν e0 e1 ?_
      (conv => whnf); try simp only [gO, gWe, ne_eq, Nat.reduceEqDiff, not_false_eq_true, true_or, or_true, true_and]
      repeat' (first | exact True.intro | (refine ⟨fun hb => ?_, fun hb => ?_⟩ <;> first | (exfalso; omega; done) | exact absurd True.intro hb | ((conv => whnf); try simp only [gO, gWe, ne_eq, Nat.reduceEqDiff, not_false_eq_true, true_or, or_true, true_and])) | (refine ⟨by omega, ?_⟩; (conv => whnf); try simp only [gO, gWe, ne_eq, Nat.reduceEqDiff, not_false_eq_true, true_or, or_true, true_and]) | (refine ⟨fun hb => ?_, ?_⟩ <;> first | (exfalso; omega; done) | exact absurd True.intro hb | ((conv => whnf); try simp only [gO, gWe, ne_eq, Nat.reduceEqDiff, not_false_eq_true, true_or, or_true, true_and])) | fail)
      refine e_ls (by omega) hW hν e0 e1 ?_
      (conv => whnf); try simp only [gO, gWe, ne_eq, Nat.reduceEqDiff, not_false_eq_true, true_or, or_true, true_and]
      repeat' (first | exact True.intro | (refine ⟨fun hb => ?_, fun hb => ?_⟩ <;> first | (exfalso; omega; done) | exact absurd True.intro hb | ((conv => whnf); try simp only [gO, gWe, ne_eq, Nat.reduceEqDiff, not_false_eq_true, true_or, or_true, true_and])) | (refine ⟨by omega, ?_⟩; (conv => whnf); try simp only [gO, gWe, ne_eq, Nat.reduceEqDiff, not_false_eq_true, true_or, or_true, true_and]) | (refine ⟨fun hb => ?_, ?_⟩ <;> first | (exfalso; omega; done) | exact absurd True.intro hb | ((conv => whnf); try simp only [gO, gWe, ne_eq, Nat.reduceEqDiff, not_false_eq_true, true_or, or_true, true_and])) | fail)
      refine e_rev (by omega) hW hν e0 e1 ?_
      (conv => whnf); try simp only [gO, gWe, ne_eq, Nat.reduceEqDiff, not_false_eq_true, true_or, or_true, true_and]
      repeat' (first | exact True.intro | (refine ⟨fun hb => ?_, fun hb => ?_⟩ <;> first | (exfalso; omega; done) | exact absurd True.intro hb | ((conv => whnf); try simp only [gO, gWe, ne_eq, Nat.reduceEqDiff, not_false_eq_true, true_or, or_true, true_and])) | (refine ⟨by omega, ?_⟩; (conv => whnf); try simp only [gO, gWe, ne_eq, Nat.reduceEqDiff, not_false_eq_true, true_or, or_true, true_and]) | (refine ⟨fun hb => ?_, ?_⟩ <;> first | (exfalso; omega; done) | exact absurd True.intro hb | ((conv => whnf); try simp only [gO, gWe, ne_eq, Nat.reduceEqDiff, not_false_eq_true, true_or, or_true, true_and])) | fail)
      refine e_lo (by omega) hW hν e0 e1 ?_
      (conv => whnf); try simp only [gO, gWe, ne_eq, Nat.reduceEqDiff, not_false_eq_true, true_or, or_true, true_and]
      repeat' (first | exact True.intro | (refine ⟨fun hb => ?_, fun hb => ?_⟩ <;> first | (exfalso; omega; done) | exact absurd True.intro hb | ((conv => whnf); try simp only [gO, gWe, ne_eq, Nat.reduceEqDiff, not_false_eq_true, true_or, or_true, true_and])) | (refine ⟨by omega, ?_⟩; (conv => whnf); try simp only [gO, gWe, ne_eq, Nat.reduceEqDiff, not_false_eq_true, true_or, or_true, true_and]) | (refine ⟨fun hb => ?_, ?_⟩ <;> first | (exfalso; omega; done) | exact absurd True.intro hb | ((conv => whnf); try simp only [gO, gWe, ne_eq, Nat.reduceEqDiff, not_false_eq_true, true_or, or_true, true_and])) | fail)
      refine e_bot (by omega) hW hν e0 e1 ?_
      (conv => whnf); try simp only [gO, gWe, ne_eq, Nat.reduceEqDiff, not_false_eq_true, true_or, or_true, true_and]
      repeat' (first | exact True.intro | (refine ⟨fun hb => ?_, fun hb => ?_⟩ <;> first | (exfalso; omega; done) | exact absurd True.intro hb | ((conv => whnf); try simp only [gO, gWe, ne_eq, Nat.reduceEqDiff, not_false_eq_true, true_or, or_true, true_and])) | (refine ⟨by omega, ?_⟩; (conv => whnf); try simp only [gO, gWe, ne_eq, Nat.reduceEqDiff, not_false_eq_true, true_or, or_true, true_and]) | (refine ⟨fun hb => ?_, ?_⟩ <;> first | (exfalso; omega; done) | exact absurd True.intro hb | ((conv => whnf); try simp only [gO, gWe, ne_eq, Nat.reduceEqDiff, not_false_eq_true, true_or, or_true, true_and])) | fail)
      refine e_rev (by omega) hW hν e0 e1 ?_
      (conv => whnf); try simp only [gO, gWe, ne_eq, Nat.reduceEqDiff, not_false_eq_true, true_or, or_true, true_and]
      repeat' (first | exact True.intro | (refine ⟨fun hb => ?_, fun hb => ?_⟩ <;> first | (exfalso; omega; done) | exact absurd True.intro hb | ((conv => whnf); try simp only [gO, gWe, ne_eq, Nat.reduceEqDiff, not_false_eq_true, true_or, or_true, true_and])) | (refine ⟨by omega, ?_⟩; (conv => whnf); try simp only [gO, gWe, ne_eq, Nat.reduceEqDiff, not_false_eq_true, true_or, or_true, true_and]) | (refine ⟨fun hb => ?_, ?_⟩ <;> first | (exfalso; omega; done) | exact absurd True.intro hb | ((conv => whnf); try simp only [gO, gWe, ne_eq, Nat.reduceEqDiff, not_false_eq_true, true_or, or_true, true_and])) | fail)
      refine e_up (by omega) hW hν e0 e1 ?_
      (conv => whnf); try simp only [gO, gWe, ne_eq, Nat.reduceEqDiff, not_false_eq_true, true_or, or_true, true_and]
      repeat' (first | exact True.intro | (refine ⟨fun hb => ?_, fun hb => ?_⟩ <;> first | (exfalso; omega; done) | exact absurd True.intro hb | ((conv => whnf); try simp only [gO, gWe, ne_eq, Nat.reduceEqDiff, not_false_eq_true, true_or, or_true, true_and])) | (refine ⟨by omega, ?_⟩; (conv => whnf); try simp only [gO, gWe, ne_eq, Nat.reduceEqDiff, not_false_eq_true, true_or, or_true, true_and]) | (refine ⟨fun hb => ?_, ?_⟩ <;> first | (exfalso; omega; done) | exact absurd True.intro hb | ((conv => whnf); try simp only [gO, gWe, ne_eq, Nat.reduceEqDiff, not_false_eq_true, true_or, or_true, true_and])) | fail)
      refine e_top (by omega) hW hν e0 e1 ?_
      (conv => whnf); try simp only [gO, gWe, ne_eq, Nat.reduceEqDiff, not_false_eq_true, true_or, or_true, true_and]
      repeat' (first | exact True.intro | (refine ⟨fun hb => ?_, fun hb => ?_⟩ <;> first | (exfalso; omega; done) | exact absurd True.intro hb | ((conv => whnf); try simp only [gO, gWe, ne_eq, Nat.reduceEqDiff, not_false_eq_true, true_or, or_true, true_and])) | (refine ⟨by omega, ?_⟩; (conv => whnf); try simp only [gO, gWe, ne_eq, Nat.reduceEqDiff, not_false_eq_true, true_or, or_true, true_and]) | (refine ⟨fun hb => ?_, ?_⟩ <;> first | (exfalso; omega; done) | exact absurd True.intro hb | ((conv => whnf); try simp only [gO, gWe, ne_eq, Nat.reduceEqDiff, not_false_eq_true, true_or, or_true, true_and])) | fail)
      refine e_len (by omega) hW hν e0 e1 ?_
      (conv => whnf); try simp only [gO, gWe, ne_eq, Nat.reduceEqDiff, not_false_eq_true, true_or, or_true, true_and]
      repeat' (first | exact True.intro | (refine ⟨fun hb => ?_, fun hb => ?_⟩ <;> first | (exfalso; omega; done) | exact absurd True.intro hb | ((conv => whnf); try simp only [gO, gWe, ne_eq, Nat.reduceEqDiff, not_false_eq_true, true_or, or_true, true_and])) | (refine ⟨by omega, ?_⟩; (conv => whnf); try simp only [gO, gWe, ne_eq, Nat.reduceEqDiff, not_false_eq_true, true_or, or_true, true_and]) | (refine ⟨fun hb => ?_, ?_⟩ <;> first | (exfalso; omega; done) | exact absurd True.intro hb | ((conv => whnf); try simp only [gO, gWe, ne_eq, Nat.reduceEqDiff, not_false_eq_true, true_or, or_true, true_and])) | fail)
      all_goals first | exact ih | exact absurd rfl hb
    · refine gB_gG [113] 300 ?_
      (conv => whnf); try simp only [gO, gWe, ne_eq, Nat.reduceEqDiff, not_false_eq_true, true_or, or_true, true_and]
      refine r_81 (by omega) hν ?_
      (conv => whnf); try simp only [gO, gWe, ne_eq, Nat.reduceEqDiff, not_false_eq_true, true_or, or_true, true_and]
      repeat' (first | exact True.intro | (refine ⟨fun hb => ?_, fun hb => ?_⟩ <;> first | (exfalso; omega; done) | exact absurd True.intro hb | ((conv => whnf); try simp only [gO, gWe, ne_eq, Nat.reduceEqDiff, not_false_eq_true, true_or, or_true, true_and])) | (refine ⟨by omega, ?_⟩; (conv => whnf); try simp only [gO, gWe, ne_eq, Nat.reduceEqDiff, not_false_eq_true, true_or, or_true, true_and]) | (refine ⟨fun hb => ?_, ?_⟩ <;> first | (exfalso; omega; done) | exact absurd True.intro hb | ((conv => whnf); try simp only [gO, gWe, ne_eq, Nat.reduceEqDiff, not_false_eq_true, true_or, or_true, true_and])) | fail)
      exact lp0 ν hν _ _ _ _ _ _ _
  exact key 0 (by omega) (by omega)
