/-! the model weighs, sorts and sweeps -/
theorem nm_up {μ : MU} (hG : iG μ) (hL : iL μ) (hN : iN μ) {e y : Int} (h0 : 0 ≤ e) (h1 : e < (μ 1 1)) (y0 : (μ 14) e ≤ y) (y1 : y < (μ 15) e) : (if (μ 14) e = y then (μ 11) e else 100 + 40 * e + y) = (μ 20) (xOn μ e y) := by
  rw [(xOn_v hG hL hN h0 h1 y0 (by omega)).2.2]
  by_cases hc : (μ 14) e = y
  · rw [if_pos hc, if_pos hc]
  · rw [if_neg hc, if_neg hc, if_neg (by omega)]
theorem nm_lo {μ : MU} (hG : iG μ) (hL : iL μ) (hN : iN μ) {e y : Int} (h0 : 0 ≤ e) (h1 : e < (μ 1 1)) (y0 : (μ 14) e ≤ y) (y1 : y < (μ 15) e) : (if (μ 15) e = y + 1 then (μ 12) e else 100 + 40 * e + (y + 1)) = (μ 20) (xOn μ e (y + 1)) := by
  rw [(xOn_v hG hL hN h0 h1 (y := y + 1) (by omega) (by omega)).2.2, if_neg (show ¬ (μ 14) e = y + 1 by omega)]
def hDir (b f y : Int) : Prop := (b = 1 ∧ f = y - 1) ∨ (b = 0 ∧ f = y + 1)
theorem hDir.f {b f y : Int} (h : hDir b f y) : f = y - 1 ∨ f = y + 1 := by unfold hDir at h; omega
theorem t_186 {D : Nat} (hD : 5 ≤ D) {μ : MU} {Q : GQ} {y p b f : Int} {sq pl : Int → Int} (hK : iK μ sq pl) (y0 : 0 ≤ y) (y1 : y < (μ 9 1)) (p0 : 0 ≤ p) (p1 : (μ 23) y + p < (μ 23) (y + 1)) (hb0 : hDir b f y) (h : ∀ ν : MU, gFr [76, 77] μ ν → (ν 76) p = xW μ pl y f (sq ((μ 23) y + p)) → (ν 77) p = xN μ y f (sq ((μ 23) y + p)) → (∀ r : Int, r ≠ p → (ν 76) r = (μ 76) r ∧ (ν 77) r = (μ 77) r) → Q none g_SH ν) : gCall g_T g_F D 186 [gR 61, gI y, gI p, gI b] g_SH μ Q := by
  have hM := hK.1
  have hN := hK.2.1
  have hS := hK.2.2.1
  have hO := hK.2.2.2.1
  have hq := hK.2.2.2.2
  have hG := hM.1
  have hL := hM.2.1
  have L := hL.2.2.2.1
  have V := hN.1
  have G := hG.1
  have M := hM.2.2.1.1
  have st := (iN_st hG hL hN).1 y y0 y1
  have a := hO.1 y y0 y1 ((μ 23) y + p) (by omega) p1
  have q1 := hq ((μ 23) y + p) (by omega) (by omega)
  have inj : ∀ e : Int, 0 ≤ e → e < (μ 1 1) → (μ 14) e ≤ y → y ≤ (μ 15) e → (μ 20) (xOn μ e y) = (μ 20) (sq ((μ 23) y + p)) → xOn μ e y = sq ((μ 23) y + p) := fun e e0 e1 t0 t1 h => by
    have v := xOn_v hG hL hN e0 e1 t0 t1
    exact iN_inj hG hL hN v.1.1 v.1.2 a.1.1 a.1.2 h
  generalize hv : sq ((μ 23) y + p) = v at *
  obtain ⟨d, rfl⟩ := gD (show 1 ≤ D by omega)
  have fin : ∀ x : GV, gG g_T g_F (gCall g_T g_F d) 0 (fun _ => 0) (g_T 186) Q 132 [gR 61, gI y, gI p, gI b, gI ((μ 20) v), gI (hWs μ pl y f v (μ 1 1).toNat), gI (hWn μ y f v (μ 1 1).toNat), x] [] g_SH μ 0 0 := by
    intro x
    have b1 := hWs_b hG hL hN hO (y := y) (f := f) hb0.f v (n := (μ 1 1).toNat) (by omega)
    have b2 := hWn_b (μ := μ) (y := y) (f := f) v (μ 1 1).toNat
    have pv : pl v = p := by omega
    by_cases hz : hWn μ y f v (μ 1 1).toNat = 0
    · refine gB_gG [] 300 ?_
      (conv => whnf); try simp only [gO, gWe, ne_eq, Nat.reduceEqDiff, not_false_eq_true, true_or, or_true, true_and]
      repeat' (first | exact True.intro | (refine ⟨fun hb => ?_, fun hb => ?_⟩ <;> first | (exfalso; omega; done) | exact absurd True.intro hb | ((conv => whnf); try simp only [gO, gWe, ne_eq, Nat.reduceEqDiff, not_false_eq_true, true_or, or_true, true_and])) | (refine ⟨by omega, ?_⟩; (conv => whnf); try simp only [gO, gWe, ne_eq, Nat.reduceEqDiff, not_false_eq_true, true_or, or_true, true_and]) | (refine ⟨fun hb => ?_, ?_⟩ <;> first | (exfalso; omega; done) | exact absurd True.intro hb | ((conv => whnf); try simp only [gO, gWe, ne_eq, Nat.reduceEqDiff, not_false_eq_true, true_or, or_true, true_and])) | fail)
      refine h _ ((gFr.rf.W (by decide)).W (by decide)) ?_ ?_ (fun r hr => ?_)
      · rw [gO (by decide), gWe]; unfold xW; rw [if_pos hz, pv]
      · rw [gWe]; unfold xN; rw [if_pos hz]
      · rw [gO (by decide), gWn _ _ _ hr, gWn _ _ _ hr, gO (by decide)]; exact ⟨rfl, rfl⟩
    · refine gB_gG [] 300 ?_
      (conv => whnf); try simp only [gO, gWe, ne_eq, Nat.reduceEqDiff, not_false_eq_true, true_or, or_true, true_and]
      repeat' (first | exact True.intro | (refine ⟨fun hb => ?_, fun hb => ?_⟩ <;> first | (exfalso; omega; done) | exact absurd True.intro hb | ((conv => whnf); try simp only [gO, gWe, ne_eq, Nat.reduceEqDiff, not_false_eq_true, true_or, or_true, true_and])) | (refine ⟨by omega, ?_⟩; (conv => whnf); try simp only [gO, gWe, ne_eq, Nat.reduceEqDiff, not_false_eq_true, true_or, or_true, true_and]) | (refine ⟨fun hb => ?_, ?_⟩ <;> first | (exfalso; omega; done) | exact absurd True.intro hb | ((conv => whnf); try simp only [gO, gWe, ne_eq, Nat.reduceEqDiff, not_false_eq_true, true_or, or_true, true_and])) | fail)
      refine h _ ((gFr.rf.W (by decide)).W (by decide)) ?_ ?_ (fun r hr => ?_)
      · rw [gO (by decide), gWe]; unfold xW; rw [if_neg hz]
      · rw [gWe]; unfold xN; rw [if_neg hz]
      · rw [gO (by decide), gWn _ _ _ hr, gWn _ _ _ hr, gO (by decide)]; exact ⟨rfl, rfl⟩
  refine gC 300 [27] rfl ?_
  (conv => whnf); try simp only [gO, gWe, ne_eq, Nat.reduceEqDiff, not_false_eq_true, true_or, or_true, true_and]
  refine t_160 (by omega) hL hS y0 (by omega) ?_
  (conv => whnf); try simp only [gO, gWe, ne_eq, Nat.reduceEqDiff, not_false_eq_true, true_or, or_true, true_and]
  repeat' (first | exact True.intro | (refine ⟨fun hb => ?_, fun hb => ?_⟩ <;> first | (exfalso; omega; done) | exact absurd True.intro hb | ((conv => whnf); try simp only [gO, gWe, ne_eq, Nat.reduceEqDiff, not_false_eq_true, true_or, or_true, true_and])) | (refine ⟨by omega, ?_⟩; (conv => whnf); try simp only [gO, gWe, ne_eq, Nat.reduceEqDiff, not_false_eq_true, true_or, or_true, true_and]) | (refine ⟨fun hb => ?_, ?_⟩ <;> first | (exfalso; omega; done) | exact absurd True.intro hb | ((conv => whnf); try simp only [gO, gWe, ne_eq, Nat.reduceEqDiff, not_false_eq_true, true_or, or_true, true_and])) | fail)
  rw [show 169 + (μ 23) y + p = 169 + ((μ 23) y + p) by omega, q1]
  have key : ∀ e : Int, 0 ≤ e → e ≤ (μ 1 1) → gG g_T g_F (gCall g_T g_F d) 0 (fun _ => 0) (g_T 186) Q 27 [gR 61, gI y, gI p, gI b, gI ((μ 20) v), gI (hWs μ pl y f v e.toNat), gI (hWn μ y f v e.toNat), gI e] [] g_SH μ 0 0 := by
    refine g_up (fun e e0 e1 ih => ?_) ?_
    · have E := (iE hG hL e0 e1).2.2.1
      have ihs : hWs μ pl y f v (e + 1).toNat = hWs μ pl y f v e.toNat + if ((μ 14) e ≤ min y f ∧ min y f < (μ 15) e) ∧ xOn μ e y = v then xSpot μ pl e f else 0 := gSum_s _ _ e0
      have ihn : hWn μ y f v (e + 1).toNat = hWn μ y f v e.toNat + if ((μ 14) e ≤ min y f ∧ min y f < (μ 15) e) ∧ xOn μ e y = v then 1 else 0 := gSum_s _ _ e0
      have b1 := hWs_b hG hL hN hO (y := y) (f := f) hb0.f v (n := e.toNat) (by omega)
      have b2 := hWn_b (μ := μ) (y := y) (f := f) v e.toNat
      rw [ihs, ihn] at ih
      clear ihs ihn
      rcases hb0 with ⟨hb1, hf⟩ | ⟨hb1, hf⟩
      · subst hf
        rw [show min y (y - 1) = y - 1 by omega] at ih
        refine gB_gG [27] 300 ?_
        (conv => whnf); try simp only [gO, gWe, ne_eq, Nat.reduceEqDiff, not_false_eq_true, true_or, or_true, true_and]
        repeat' (first | exact True.intro | (refine ⟨fun hb => ?_, fun hb => ?_⟩ <;> first | (exfalso; omega; done) | exact absurd True.intro hb | ((conv => whnf); try simp only [gO, gWe, ne_eq, Nat.reduceEqDiff, not_false_eq_true, true_or, or_true, true_and])) | (refine ⟨by omega, ?_⟩; (conv => whnf); try simp only [gO, gWe, ne_eq, Nat.reduceEqDiff, not_false_eq_true, true_or, or_true, true_and]) | (refine ⟨fun hb => ?_, ?_⟩ <;> first | (exfalso; omega; done) | exact absurd True.intro hb | ((conv => whnf); try simp only [gO, gWe, ne_eq, Nat.reduceEqDiff, not_false_eq_true, true_or, or_true, true_and])) | fail)
        refine t_172 (by omega) hM e0 e1 (fun hp => ?_) (fun hp => ?_)
        · have sb := xSpot_b hG hL hN hO e0 e1 (y := y - 1) hp.1 (by omega)
          (conv => whnf); try simp only [gO, gWe, ne_eq, Nat.reduceEqDiff, not_false_eq_true, true_or, or_true, true_and]
          repeat' (first | exact True.intro | (refine ⟨fun hb => ?_, fun hb => ?_⟩ <;> first | (exfalso; omega; done) | exact absurd True.intro hb | ((conv => whnf); try simp only [gO, gWe, ne_eq, Nat.reduceEqDiff, not_false_eq_true, true_or, or_true, true_and])) | (refine ⟨by omega, ?_⟩; (conv => whnf); try simp only [gO, gWe, ne_eq, Nat.reduceEqDiff, not_false_eq_true, true_or, or_true, true_and]) | (refine ⟨fun hb => ?_, ?_⟩ <;> first | (exfalso; omega; done) | exact absurd True.intro hb | ((conv => whnf); try simp only [gO, gWe, ne_eq, Nat.reduceEqDiff, not_false_eq_true, true_or, or_true, true_and])) | fail)
          refine t_174 (by omega) hM e0 e1 (by omega) ?_
          rw [nm_lo hG hL hN e0 e1 hp.1 hp.2, show y - 1 + 1 = y by omega]
          (conv => whnf); try simp only [gO, gWe, ne_eq, Nat.reduceEqDiff, not_false_eq_true, true_or, or_true, true_and]
          repeat' (first | exact True.intro | (refine ⟨fun hb => ?_, fun hb => ?_⟩ <;> first | (exfalso; omega; done) | exact absurd True.intro hb | ((conv => whnf); try simp only [gO, gWe, ne_eq, Nat.reduceEqDiff, not_false_eq_true, true_or, or_true, true_and])) | (refine ⟨by omega, ?_⟩; (conv => whnf); try simp only [gO, gWe, ne_eq, Nat.reduceEqDiff, not_false_eq_true, true_or, or_true, true_and]) | (refine ⟨fun hb => ?_, ?_⟩ <;> first | (exfalso; omega; done) | exact absurd True.intro hb | ((conv => whnf); try simp only [gO, gWe, ne_eq, Nat.reduceEqDiff, not_false_eq_true, true_or, or_true, true_and])) | fail)
          · have ne : ¬ xOn μ e y = v := fun hh => by
              have e9 : (μ 20) (xOn μ e y) = (μ 20) v := by rw [hh]
              omega
            rw [if_neg (fun h => ne h.2), if_neg (fun h => ne h.2), Int.add_zero, Int.add_zero] at ih
            exact ih
          · have hx := inj e e0 e1 (by omega) (by omega) (by omega)
            rw [if_pos ⟨hp, hx⟩, if_pos ⟨hp, hx⟩] at ih
            refine t_175 (by omega) hK e0 e1 hp.1 hp.2 ?_
            (conv => whnf); try simp only [gO, gWe, ne_eq, Nat.reduceEqDiff, not_false_eq_true, true_or, or_true, true_and]
            repeat' (first | exact True.intro | (refine ⟨fun hb => ?_, fun hb => ?_⟩ <;> first | (exfalso; omega; done) | exact absurd True.intro hb | ((conv => whnf); try simp only [gO, gWe, ne_eq, Nat.reduceEqDiff, not_false_eq_true, true_or, or_true, true_and])) | (refine ⟨by omega, ?_⟩; (conv => whnf); try simp only [gO, gWe, ne_eq, Nat.reduceEqDiff, not_false_eq_true, true_or, or_true, true_and]) | (refine ⟨fun hb => ?_, ?_⟩ <;> first | (exfalso; omega; done) | exact absurd True.intro hb | ((conv => whnf); try simp only [gO, gWe, ne_eq, Nat.reduceEqDiff, not_false_eq_true, true_or, or_true, true_and])) | fail)
            exact ih
        · rw [if_neg (fun h => hp h.1), if_neg (fun h => hp h.1), Int.add_zero, Int.add_zero] at ih
          (conv => whnf); try simp only [gO, gWe, ne_eq, Nat.reduceEqDiff, not_false_eq_true, true_or, or_true, true_and]
          repeat' (first | exact True.intro | (refine ⟨fun hb => ?_, fun hb => ?_⟩ <;> first | (exfalso; omega; done) | exact absurd True.intro hb | ((conv => whnf); try simp only [gO, gWe, ne_eq, Nat.reduceEqDiff, not_false_eq_true, true_or, or_true, true_and])) | (refine ⟨by omega, ?_⟩; (conv => whnf); try simp only [gO, gWe, ne_eq, Nat.reduceEqDiff, not_false_eq_true, true_or, or_true, true_and]) | (refine ⟨fun hb => ?_, ?_⟩ <;> first | (exfalso; omega; done) | exact absurd True.intro hb | ((conv => whnf); try simp only [gO, gWe, ne_eq, Nat.reduceEqDiff, not_false_eq_true, true_or, or_true, true_and])) | fail)
          exact ih
      · subst hf
        rw [show min y (y + 1) = y by omega] at ih
        refine gB_gG [27] 300 ?_
        (conv => whnf); try simp only [gO, gWe, ne_eq, Nat.reduceEqDiff, not_false_eq_true, true_or, or_true, true_and]
        repeat' (first | exact True.intro | (refine ⟨fun hb => ?_, fun hb => ?_⟩ <;> first | (exfalso; omega; done) | exact absurd True.intro hb | ((conv => whnf); try simp only [gO, gWe, ne_eq, Nat.reduceEqDiff, not_false_eq_true, true_or, or_true, true_and])) | (refine ⟨by omega, ?_⟩; (conv => whnf); try simp only [gO, gWe, ne_eq, Nat.reduceEqDiff, not_false_eq_true, true_or, or_true, true_and]) | (refine ⟨fun hb => ?_, ?_⟩ <;> first | (exfalso; omega; done) | exact absurd True.intro hb | ((conv => whnf); try simp only [gO, gWe, ne_eq, Nat.reduceEqDiff, not_false_eq_true, true_or, or_true, true_and])) | fail)
        refine t_172 (by omega) hM e0 e1 (fun hp => ?_) (fun hp => ?_)
        · have sb := xSpot_b hG hL hN hO e0 e1 (y := y + 1) (by omega) (by omega)
          (conv => whnf); try simp only [gO, gWe, ne_eq, Nat.reduceEqDiff, not_false_eq_true, true_or, or_true, true_and]
          repeat' (first | exact True.intro | (refine ⟨fun hb => ?_, fun hb => ?_⟩ <;> first | (exfalso; omega; done) | exact absurd True.intro hb | ((conv => whnf); try simp only [gO, gWe, ne_eq, Nat.reduceEqDiff, not_false_eq_true, true_or, or_true, true_and])) | (refine ⟨by omega, ?_⟩; (conv => whnf); try simp only [gO, gWe, ne_eq, Nat.reduceEqDiff, not_false_eq_true, true_or, or_true, true_and]) | (refine ⟨fun hb => ?_, ?_⟩ <;> first | (exfalso; omega; done) | exact absurd True.intro hb | ((conv => whnf); try simp only [gO, gWe, ne_eq, Nat.reduceEqDiff, not_false_eq_true, true_or, or_true, true_and])) | fail)
          refine t_173 (by omega) hM e0 e1 (by omega) ?_
          rw [nm_up hG hL hN e0 e1 hp.1 hp.2]
          (conv => whnf); try simp only [gO, gWe, ne_eq, Nat.reduceEqDiff, not_false_eq_true, true_or, or_true, true_and]
          repeat' (first | exact True.intro | (refine ⟨fun hb => ?_, fun hb => ?_⟩ <;> first | (exfalso; omega; done) | exact absurd True.intro hb | ((conv => whnf); try simp only [gO, gWe, ne_eq, Nat.reduceEqDiff, not_false_eq_true, true_or, or_true, true_and])) | (refine ⟨by omega, ?_⟩; (conv => whnf); try simp only [gO, gWe, ne_eq, Nat.reduceEqDiff, not_false_eq_true, true_or, or_true, true_and]) | (refine ⟨fun hb => ?_, ?_⟩ <;> first | (exfalso; omega; done) | exact absurd True.intro hb | ((conv => whnf); try simp only [gO, gWe, ne_eq, Nat.reduceEqDiff, not_false_eq_true, true_or, or_true, true_and])) | fail)
          · have ne : ¬ xOn μ e y = v := fun hh => by
              have e9 : (μ 20) (xOn μ e y) = (μ 20) v := by rw [hh]
              omega
            rw [if_neg (fun h => ne h.2), if_neg (fun h => ne h.2), Int.add_zero, Int.add_zero] at ih
            exact ih
          · have hx := inj e e0 e1 (by omega) (by omega) (by omega)
            rw [if_pos ⟨hp, hx⟩, if_pos ⟨hp, hx⟩] at ih
            refine t_176 (by omega) hK e0 e1 hp.1 hp.2 ?_
            (conv => whnf); try simp only [gO, gWe, ne_eq, Nat.reduceEqDiff, not_false_eq_true, true_or, or_true, true_and]
            repeat' (first | exact True.intro | (refine ⟨fun hb => ?_, fun hb => ?_⟩ <;> first | (exfalso; omega; done) | exact absurd True.intro hb | ((conv => whnf); try simp only [gO, gWe, ne_eq, Nat.reduceEqDiff, not_false_eq_true, true_or, or_true, true_and])) | (refine ⟨by omega, ?_⟩; (conv => whnf); try simp only [gO, gWe, ne_eq, Nat.reduceEqDiff, not_false_eq_true, true_or, or_true, true_and]) | (refine ⟨fun hb => ?_, ?_⟩ <;> first | (exfalso; omega; done) | exact absurd True.intro hb | ((conv => whnf); try simp only [gO, gWe, ne_eq, Nat.reduceEqDiff, not_false_eq_true, true_or, or_true, true_and])) | fail)
            exact ih
        · rw [if_neg (fun h => hp h.1), if_neg (fun h => hp h.1), Int.add_zero, Int.add_zero] at ih
          (conv => whnf); try simp only [gO, gWe, ne_eq, Nat.reduceEqDiff, not_false_eq_true, true_or, or_true, true_and]
          repeat' (first | exact True.intro | (refine ⟨fun hb => ?_, fun hb => ?_⟩ <;> first | (exfalso; omega; done) | exact absurd True.intro hb | ((conv => whnf); try simp only [gO, gWe, ne_eq, Nat.reduceEqDiff, not_false_eq_true, true_or, or_true, true_and])) | (refine ⟨by omega, ?_⟩; (conv => whnf); try simp only [gO, gWe, ne_eq, Nat.reduceEqDiff, not_false_eq_true, true_or, or_true, true_and]) | (refine ⟨fun hb => ?_, ?_⟩ <;> first | (exfalso; omega; done) | exact absurd True.intro hb | ((conv => whnf); try simp only [gO, gWe, ne_eq, Nat.reduceEqDiff, not_false_eq_true, true_or, or_true, true_and])) | fail)
          exact ih
    · refine gB_gG [27,132] 300 ?_
      (conv => whnf); try simp only [gO, gWe, ne_eq, Nat.reduceEqDiff, not_false_eq_true, true_or, or_true, true_and]
      repeat' (first | exact True.intro | (refine ⟨fun hb => ?_, fun hb => ?_⟩ <;> first | (exfalso; omega; done) | exact absurd True.intro hb | ((conv => whnf); try simp only [gO, gWe, ne_eq, Nat.reduceEqDiff, not_false_eq_true, true_or, or_true, true_and])) | (refine ⟨by omega, ?_⟩; (conv => whnf); try simp only [gO, gWe, ne_eq, Nat.reduceEqDiff, not_false_eq_true, true_or, or_true, true_and]) | (refine ⟨fun hb => ?_, ?_⟩ <;> first | (exfalso; omega; done) | exact absurd True.intro hb | ((conv => whnf); try simp only [gO, gWe, ne_eq, Nat.reduceEqDiff, not_false_eq_true, true_or, or_true, true_and])) | fail)
      exact fin _
  exact key 0 (by omega) (by omega)
