/-! the model sorts and sweeps -/
/-- an order of the model; its places may be others in one layer -/
theorem iK_o {μ : MU} {sq pl pl' : Int → Int} (hK : iK μ sq pl) (h : iO μ sq pl') : iK μ sq pl' := ⟨hK.1, hK.2.1, hK.2.2.1, h, hK.2.2.2.2⟩
theorem iK_clo {ν ρ : MU} {sq pl plx : Int → Int} {y : Int} (hK : iK ν sq pl) (y0 : 0 ≤ y) (y1 : y < (ν 9 1)) (hf : gFr [62, 71] ν ρ) (h1 : ∀ k : Int, ¬ (169 + (ν 23) y ≤ k ∧ k < 169 + (ν 23) (y + 1)) → ρ 62 k = ν 62 k) (h2 : ∀ k : Int, (ν 23) y ≤ k → k < (ν 23) (y + 1) → ρ 62 (169 + k) = (ν 20) (cloS ν sq y k)) (hO : iO ν (cloS ν sq y) plx) : hSo ν ρ ∧ iK ρ (cloS ν sq y) plx := by
  have V := hK.2.1.1
  have st := (iN_st hK.1.1 hK.1.2.1 hK.2.1).1 y y0 y1
  have so : hSo ν ρ := fun k hk => h1 k (by omega)
  have s1 : hSt ν ρ := hf.st (by decide)
  have s2 : hSm ν ρ := so.sm hf (by decide) (by decide)
  refine ⟨so, iM_c s1 s2 hK.1, iN_c s1 hK.2.1, iDs_c s1 s2 hK.1.2.1 hK.2.2.1, iO_c s1 hO, fun k k0 k1 => ?_⟩
  rw [s1 19 (by decide) (by decide)] at k1
  rw [s1 20 (by decide) (by decide)]
  by_cases hc : (ν 23) y ≤ k ∧ k < (ν 23) (y + 1)
  · exact h2 k hc.1 hc.2
  · rw [h1 _ (by omega), show cloS ν sq y k = sq k from if_neg hc]
    exact hK.2.2.2.2 k k0 k1
theorem t_187 {D : Nat} (hD : 6 ≤ D) {μ : MU} {Q : GQ} {y b f : Int} {sq pl : Int → Int} (hK : iK μ sq pl) (y0 : 0 ≤ y) (y1 : y < (μ 9 1)) (hb0 : hDir b f y) (h : ∀ ν : MU, gFr [62, 71, 76, 77] μ ν → hSo μ ν → iK ν (swp1 μ y f (sq, pl)).1 (swp1 μ y f (sq, pl)).2 → Q none g_SH ν) : gCall g_T g_F D 187 [gR 61, gI y, gI b] g_SH μ Q := by
  have hM := hK.1
  have hN := hK.2.1
  have hS := hK.2.2.1
  have hO := hK.2.2.2.1
  have hq := hK.2.2.2.2
  have hG := hM.1
  have hL := hM.2.1
  have L := hL.2.2.2.1
  have V := hN.1
  have st := (iN_st hG hL hN).1 y y0 y1
  unfold swp1 at h
  dsimp only at h
  have osrt := iOy_srt (xW μ pl y f) (xN μ y f) hG hL hN hO y0 y1
  have hWb : ∀ v : Int, 0 ≤ v → v < (μ 19 2) → (0 ≤ xW μ pl y f v ∧ xW μ pl y f v ≤ 9600) ∧ 1 ≤ xN μ y f v ∧ xN μ y f v ≤ 20 := fun v v0 v1 => xW_b hG hL hN hO hb0.f v0 v1
  generalize hWW : xW μ pl y f = W at *
  generalize hNN : xN μ y f = N at *
  have oS := fun c hc => iOy_srt W N hG hL hN hO y0 y1 c hc
  -- what the loops keep
  have SQ : ∀ (ρ : MU) (sq' : Int → Int), hSt μ ρ → (∃ pl' : Int → Int, iK ρ sq' pl' ∧ ∀ v : Int, 0 ≤ v → v < (μ 19 2) → (μ 21) v ≠ y → pl v = pl' v) → iOy μ sq' pl y := fun ρ sq' t1 hk => by
    obtain ⟨pl', q1, q2⟩ := hk
    exact ⟨pl', iO_c t1.sy q1.2.2.2.1, q2⟩
  -- the sorting
  have srt : ∀ d : Nat, 5 ≤ d → ∀ p : Int, 1 ≤ p → p ≤ max 1 ((μ 23) (y + 1) - (μ 23) y) → ∀ (ν : MU) (x z w : GV), gFr [62, 76, 77] μ ν → hSo μ ν → (∃ pl' : Int → Int, iK ν (srtF W N sq ((μ 23) y) (p - 1).toNat) pl' ∧ ∀ v : Int, 0 ≤ v → v < (μ 19 2) → (μ 21) v ≠ y → pl v = pl' v) → (∀ r : Int, 0 ≤ r → (μ 23) y + r < (μ 23) (y + 1) → (ν 76) r = W (srtF W N sq ((μ 23) y) (p - 1).toNat ((μ 23) y + r)) ∧ (ν 77) r = N (srtF W N sq ((μ 23) y) (p - 1).toNat ((μ 23) y + r))) → gG g_T g_F (gCall g_T g_F d) 0 (fun _ => 0) (g_T 187) Q 26 [gR 61, gI y, gI b, gI p, x, z, w] [] g_SH ν 0 0 := by
    intro d hd
    refine g_up (fun p p0 p1 ih ν x z w hν hso hk hw => ?_) (fun ν x z w hν hso hk hw => ?_)
    · rw [show (p + 1 - 1).toNat = (p - 1).toNat + 1 by omega] at ih
      rw [show srtF W N sq ((μ 23) y) ((p - 1).toNat + 1) = insF W N ((p - 1).toNat + 1) (srtF W N sq ((μ 23) y) (p - 1).toNat) ((μ 23) y + p) by
              show insF _ _ _ _ _ = _
              rw [show (μ 23) y + (((p - 1).toNat : Int) + 1) = (μ 23) y + p by omega]] at ih
      generalize hfs : insF W N ((p - 1).toNat + 1) (srtF W N sq ((μ 23) y) (p - 1).toNat) ((μ 23) y + p) = fs at ih
      have pn : p < (μ 23) (y + 1) - (μ 23) y := by omega
      clear p1
      have inn : ∀ k : Int, 0 ≤ k → k ≤ p → ∀ (ρ : MU) (sq' : Int → Int) (x' z' : GV), gFr [62, 76, 77] μ ρ → hSo μ ρ → (∃ pl' : Int → Int, iK ρ sq' pl' ∧ ∀ v : Int, 0 ≤ v → v < (μ 19 2) → (μ 21) v ≠ y → pl v = pl' v) → (∀ r : Int, 0 ≤ r → (μ 23) y + r < (μ 23) (y + 1) → (ρ 76) r = W (sq' ((μ 23) y + r)) ∧ (ρ 77) r = N (sq' ((μ 23) y + r))) → insF W N k.toNat sq' ((μ 23) y + k) = fs → gG g_T g_F (gCall g_T g_F d) 0 (fun _ => 0) (g_T 187) Q 38 [gR 61, gI y, gI b, gI p, gI k, x', z'] [] g_SH ρ 0 0 := by
        refine g_dn (fun k k0 k1 ihk ρ sq' x' z' hρ hso' hk' hw' hi => ?_) (fun ρ sq' x' z' hρ hso' hk' hw' hi => ?_)
        · have oy := SQ ρ sq' (hρ.st (by decide)) hk'
          obtain ⟨pl', q1, q2⟩ := hk'
          have t1 : hSt μ ρ := hρ.st (by decide)
          have u1 : (ρ 23) y = (μ 23) y := by rw [t1 23 (by decide) (by decide)]
          have u2 : (ρ 23) (y + 1) = (μ 23) (y + 1) := by rw [t1 23 (by decide) (by decide)]
          have u9 : (ρ 9 1) = (μ 9 1) := by rw [t1 9 (by decide) (by decide)]
          have w1 := hw' k (by omega) (by omega)
          have w2 := hw' (k - 1) (by omega) (by omega)
          have m12 : gOk ((ρ 76) (k - 1) * (ρ 77) k) ∧ gOk ((ρ 76) k * (ρ 77) (k - 1)) := by
            have o1 := (q1.2.2.2.1.1 y y0 (by omega) ((μ 23) y + k) (by omega) (by omega)).1
            have o2 := (q1.2.2.2.1.1 y y0 (by omega) ((μ 23) y + (k - 1)) (by omega) (by omega)).1
            rw [t1 19 (by decide) (by decide)] at o1 o2
            have c1 := hWb _ o1.1 o1.2
            have c2 := hWb _ o2.1 o2.2
            exact ⟨g_mulw (by omega) (by omega), g_mulw (by omega) (by omega)⟩
          rw [show k.toNat = (k - 1).toNat + 1 by omega] at hi
          have hi0 : (if W (sq' ((μ 23) y + k)) * N (sq' ((μ 23) y + k - 1)) < W (sq' ((μ 23) y + k - 1)) * N (sq' ((μ 23) y + k)) then insF W N (k - 1).toNat (swS sq' ((μ 23) y + k - 1)) ((μ 23) y + k - 1) else sq') = fs := hi
          rw [show (μ 23) y + k - 1 = (μ 23) y + (k - 1) by omega, ← w1.1, ← w1.2, ← w2.1, ← w2.2] at hi0
          by_cases hlt : (ρ 76) k * (ρ 77) (k - 1) < (ρ 76) (k - 1) * (ρ 77) k
          · rw [if_pos hlt] at hi0
            refine gB_gG [38,26] 300 ?_
            (conv => whnf); try simp only [gO, gWe, ne_eq, Nat.reduceEqDiff, not_false_eq_true, true_or, or_true, true_and]
            repeat' (first | exact True.intro | (refine ⟨fun hb => ?_, fun hb => ?_⟩ <;> first | (exfalso; omega; done) | exact absurd True.intro hb | ((conv => whnf); try simp only [gO, gWe, ne_eq, Nat.reduceEqDiff, not_false_eq_true, true_or, or_true, true_and])) | (refine ⟨by omega, ?_⟩; (conv => whnf); try simp only [gO, gWe, ne_eq, Nat.reduceEqDiff, not_false_eq_true, true_or, or_true, true_and]) | (refine ⟨fun hb => ?_, ?_⟩ <;> first | (exfalso; omega; done) | exact absurd True.intro hb | ((conv => whnf); try simp only [gO, gWe, ne_eq, Nat.reduceEqDiff, not_false_eq_true, true_or, or_true, true_and])) | fail)
            refine t_188 (by omega) q1 y0 (by omega) (by omega) (by omega) (fun τ hτ hso2 hk2 => ?_)
            have r1 : (τ 76) = (ρ 76) := hτ 76 (by decide)
            have r2 : (τ 77) = (ρ 77) := hτ 77 (by decide)
            (conv => whnf); try simp only [gO, gWe, ne_eq, Nat.reduceEqDiff, not_false_eq_true, true_or, or_true, true_and]
            repeat' (first | exact True.intro | (refine ⟨fun hb => ?_, fun hb => ?_⟩ <;> first | (exfalso; omega; done) | exact absurd True.intro hb | ((conv => whnf); try simp only [gO, gWe, ne_eq, Nat.reduceEqDiff, not_false_eq_true, true_or, or_true, true_and])) | (refine ⟨by omega, ?_⟩; (conv => whnf); try simp only [gO, gWe, ne_eq, Nat.reduceEqDiff, not_false_eq_true, true_or, or_true, true_and]) | (refine ⟨fun hb => ?_, ?_⟩ <;> first | (exfalso; omega; done) | exact absurd True.intro hb | ((conv => whnf); try simp only [gO, gWe, ne_eq, Nat.reduceEqDiff, not_false_eq_true, true_or, or_true, true_and])) | fail)
            rw [r1, r2]
            rw [u1] at hk2
            have f4 : gFr [76, 77] τ (gW (gW (gW (gW τ 76 k ((ρ 76) (k - 1))) 76 (k - 1) ((ρ 76) k)) 77 k ((ρ 77) (k - 1))) 77 (k - 1) ((ρ 77) k)) := (((gFr.rf.W (by decide)).W (by decide)).W (by decide)).W (by decide)
            have a4 : ∀ r : Int, gW (gW (gW (gW τ 76 k ((ρ 76) (k - 1))) 76 (k - 1) ((ρ 76) k)) 77 k ((ρ 77) (k - 1))) 77 (k - 1) ((ρ 77) k) 76 r = if r = k - 1 then (ρ 76) k else if r = k then (ρ 76) (k - 1) else (τ 76) r := fun r => rfl
            have b4 : ∀ r : Int, gW (gW (gW (gW τ 76 k ((ρ 76) (k - 1))) 76 (k - 1) ((ρ 76) k)) 77 k ((ρ 77) (k - 1))) 77 (k - 1) ((ρ 77) k) 77 r = if r = k - 1 then (ρ 77) k else if r = k then (ρ 77) (k - 1) else (τ 77) r := fun r => rfl
            generalize gW (gW (gW (gW τ 76 k ((ρ 76) (k - 1))) 76 (k - 1) ((ρ 76) k)) 77 k ((ρ 77) (k - 1))) 77 (k - 1) ((ρ 77) k) = ρ' at f4 a4 b4 ⊢
            rw [r1] at a4
            rw [r2] at b4
            have st4 : hSt τ ρ' := f4.st (by decide)
            have k4 : iK ρ' (swS sq' ((μ 23) y + (k - 1))) (swP sq' pl' ((μ 23) y + (k - 1)) (k - 1)) := iK_c st4 (f4.sm (by decide) (by decide) (by decide)) (f4 62 (by decide)) hk2
            obtain ⟨pl2, io2, off2⟩ := iOy_sw hG hL hN oy y0 y1 (i := (μ 23) y + (k - 1)) (by omega) (by omega)
            have st5 : hSt μ ρ' := (t1.tr (hτ.st (by decide))).tr st4
            refine ihk ρ' _ _ _ ((hρ.tr (hτ.mo (by decide))).tr (f4.mo (by decide))) ((hso'.tr hso2).tr (hSo.fr f4 (by decide))) ⟨pl2, iK_o k4 (iO_c st5 io2), off2⟩ (fun r r0 r1 => ?_) hi0
            rw [a4, b4]
            unfold swS
            by_cases d1 : r = k - 1
            · subst d1
              rw [if_pos rfl, if_pos rfl, if_neg (by omega), if_pos rfl, show (μ 23) y + (k - 1) + 1 = (μ 23) y + k by omega]
              exact w1
            · by_cases d2 : r = k
              · subst d2
                rw [if_neg d1, if_neg d1, if_pos rfl, if_pos rfl, if_pos (by omega)]
                exact w2
              · rw [if_neg d1, if_neg d1, if_neg d2, if_neg d2, if_neg (by omega), if_neg (by omega)]
                exact hw' r r0 r1
          · rw [if_neg hlt] at hi0
            subst hi0
            refine gB_gG [38,26] 300 ?_
            (conv => whnf); try simp only [gO, gWe, ne_eq, Nat.reduceEqDiff, not_false_eq_true, true_or, or_true, true_and]
            repeat' (first | exact True.intro | (refine ⟨fun hb => ?_, fun hb => ?_⟩ <;> first | (exfalso; omega; done) | exact absurd True.intro hb | ((conv => whnf); try simp only [gO, gWe, ne_eq, Nat.reduceEqDiff, not_false_eq_true, true_or, or_true, true_and])) | (refine ⟨by omega, ?_⟩; (conv => whnf); try simp only [gO, gWe, ne_eq, Nat.reduceEqDiff, not_false_eq_true, true_or, or_true, true_and]) | (refine ⟨fun hb => ?_, ?_⟩ <;> first | (exfalso; omega; done) | exact absurd True.intro hb | ((conv => whnf); try simp only [gO, gWe, ne_eq, Nat.reduceEqDiff, not_false_eq_true, true_or, or_true, true_and])) | fail)
            exact ih ρ _ _ _ hρ hso' ⟨pl', q1, q2⟩ hw'
        · have hi0 : sq' = fs := hi
          subst hi0
          refine gB_gG [38,26] 300 ?_
          (conv => whnf); try simp only [gO, gWe, ne_eq, Nat.reduceEqDiff, not_false_eq_true, true_or, or_true, true_and]
          repeat' (first | exact True.intro | (refine ⟨fun hb => ?_, fun hb => ?_⟩ <;> first | (exfalso; omega; done) | exact absurd True.intro hb | ((conv => whnf); try simp only [gO, gWe, ne_eq, Nat.reduceEqDiff, not_false_eq_true, true_or, or_true, true_and])) | (refine ⟨by omega, ?_⟩; (conv => whnf); try simp only [gO, gWe, ne_eq, Nat.reduceEqDiff, not_false_eq_true, true_or, or_true, true_and]) | (refine ⟨fun hb => ?_, ?_⟩ <;> first | (exfalso; omega; done) | exact absurd True.intro hb | ((conv => whnf); try simp only [gO, gWe, ne_eq, Nat.reduceEqDiff, not_false_eq_true, true_or, or_true, true_and])) | fail)
          exact ih ρ _ _ _ hρ hso' hk' hw'
      obtain ⟨pl', q1, q2⟩ := hk
      have t1 : hSt μ ν := hν.st (by decide)
      have u1 : (ν 23) y = (μ 23) y := by rw [t1 23 (by decide) (by decide)]
      have u2 : (ν 23) (y + 1) = (μ 23) (y + 1) := by rw [t1 23 (by decide) (by decide)]
      have u9 : (ν 9 1) = (μ 9 1) := by rw [t1 9 (by decide) (by decide)]
      refine gB_gG [38] 300 ?_
      (conv => whnf); try simp only [gO, gWe, ne_eq, Nat.reduceEqDiff, not_false_eq_true, true_or, or_true, true_and]
      refine t_161 (by omega) q1.1 q1.2.1 q1.2.2.1 y0 (by omega) ?_
      rw [u1, u2]
      (conv => whnf); try simp only [gO, gWe, ne_eq, Nat.reduceEqDiff, not_false_eq_true, true_or, or_true, true_and]
      repeat' (first | exact True.intro | (refine ⟨fun hb => ?_, fun hb => ?_⟩ <;> first | (exfalso; omega; done) | exact absurd True.intro hb | ((conv => whnf); try simp only [gO, gWe, ne_eq, Nat.reduceEqDiff, not_false_eq_true, true_or, or_true, true_and])) | (refine ⟨by omega, ?_⟩; (conv => whnf); try simp only [gO, gWe, ne_eq, Nat.reduceEqDiff, not_false_eq_true, true_or, or_true, true_and]) | (refine ⟨fun hb => ?_, ?_⟩ <;> first | (exfalso; omega; done) | exact absurd True.intro hb | ((conv => whnf); try simp only [gO, gWe, ne_eq, Nat.reduceEqDiff, not_false_eq_true, true_or, or_true, true_and])) | fail)
      exact inn p (by omega) (by omega) ν _ _ _ hν hso ⟨pl', q1, q2⟩ hw (by rw [← hfs, show p.toNat = (p - 1).toNat + 1 by omega])
    · rw [show (max 1 ((μ 23) (y + 1) - (μ 23) y) - 1).toNat = ((μ 23) (y + 1) - (μ 23) y - 1).toNat by omega] at hk
      clear hw
      obtain ⟨pl', q1, q2⟩ := hk
      have t1 : hSt μ ν := hν.st (by decide)
      have u1 : (ν 23) y = (μ 23) y := by rw [t1 23 (by decide) (by decide)]
      have u2 : (ν 23) (y + 1) = (μ 23) (y + 1) := by rw [t1 23 (by decide) (by decide)]
      have u9 : (ν 9 1) = (μ 9 1) := by rw [t1 9 (by decide) (by decide)]
      have u19 : (ν 19 2) = (μ 19 2) := by rw [t1 19 (by decide) (by decide)]
      generalize hfs : srtF W N sq ((μ 23) y) ((μ 23) (y + 1) - (μ 23) y - 1).toNat = fs at q1 h
      have co : iO ν (clo2 ν y (fs, pl)).1 (clo2 ν y (fs, pl)).2 := clo2_o q1.1.1 q1.1.2.1 q1.2.1 q1.2.2.2.1 y0 (by omega) (fun v v0 v1 hv => by
        rw [t1 19 (by decide) (by decide)] at v1
        rw [t1 21 (by decide) (by decide)] at hv
        exact q2 v v0 v1 hv)
      have cs : cloS ν = cloS μ := cloS_c t1
      have c2 : clo2 ν = clo2 μ := clo2_c t1
      refine gB_gG [] 300 ?_
      (conv => whnf); try simp only [gO, gWe, ne_eq, Nat.reduceEqDiff, not_false_eq_true, true_or, or_true, true_and]
      refine t_161 (by omega) q1.1 q1.2.1 q1.2.2.1 y0 (by omega) ?_
      rw [u1, u2]
      (conv => whnf); try simp only [gO, gWe, ne_eq, Nat.reduceEqDiff, not_false_eq_true, true_or, or_true, true_and]
      repeat' (first | exact True.intro | (refine ⟨fun hb => ?_, fun hb => ?_⟩ <;> first | (exfalso; omega; done) | exact absurd True.intro hb | ((conv => whnf); try simp only [gO, gWe, ne_eq, Nat.reduceEqDiff, not_false_eq_true, true_or, or_true, true_and])) | (refine ⟨by omega, ?_⟩; (conv => whnf); try simp only [gO, gWe, ne_eq, Nat.reduceEqDiff, not_false_eq_true, true_or, or_true, true_and]) | (refine ⟨fun hb => ?_, ?_⟩ <;> first | (exfalso; omega; done) | exact absurd True.intro hb | ((conv => whnf); try simp only [gO, gWe, ne_eq, Nat.reduceEqDiff, not_false_eq_true, true_or, or_true, true_and])) | fail)
      refine t_166 (by omega) q1.1 q1.2.1 q1.2.2.2.1 y0 (by omega) (q1.2.2.1.2 y y0 (by omega)) (q1.2.2.1.2 (y + 1) (by omega) (by omega)) (fun k k0 k1 => q1.2.2.2.2 k (by omega) (by omega)) (fun ρ hρ h1 h2 => ?_)
      (conv => whnf); try simp only [gO, gWe, ne_eq, Nat.reduceEqDiff, not_false_eq_true, true_or, or_true, true_and]
      have z := iK_clo q1 y0 (by omega) hρ h1 h2 co
      refine h ρ ((hν.mo (by decide)).tr (hρ.mo (by decide))) (hso.tr z.1) ?_
      rw [← c2]
      exact z.2
  obtain ⟨d, rfl⟩ := gD (show 1 ≤ D by omega)
  refine gC 300 [2] rfl ?_
  (conv => whnf); try simp only [gO, gWe, ne_eq, Nat.reduceEqDiff, not_false_eq_true, true_or, or_true, true_and]
  have wl : ∀ p : Int, 0 ≤ p → p ≤ (μ 23) (y + 1) - (μ 23) y → ∀ ν : MU, gFr [76, 77] μ ν → (∀ r : Int, 0 ≤ r → r < p → (ν 76) r = W (sq ((μ 23) y + r)) ∧ (ν 77) r = N (sq ((μ 23) y + r))) → gG g_T g_F (gCall g_T g_F d) 0 (fun _ => 0) (g_T 187) Q 2 [gR 61, gI y, gI b, gI p, gN 2, gN 2, gN 2] [] g_SH ν 0 0 := by
    refine g_up (fun p p0 p1 ih ν hν hw => ?_) (fun ν hν hw => ?_)
    · have t1 : hSt μ ν := hν.st (by decide)
      have u1 : (ν 23) y = (μ 23) y := by rw [t1 23 (by decide) (by decide)]
      have u2 : (ν 23) (y + 1) = (μ 23) (y + 1) := by rw [t1 23 (by decide) (by decide)]
      have u9 : (ν 9 1) = (μ 9 1) := by rw [t1 9 (by decide) (by decide)]
      have k1 : iK ν sq pl := iK_c t1 (hν.sm (by decide) (by decide) (by decide)) (hν 62 (by decide)) hK
      refine gB_gG [2] 300 ?_
      (conv => whnf); try simp only [gO, gWe, ne_eq, Nat.reduceEqDiff, not_false_eq_true, true_or, or_true, true_and]
      refine t_161 (by omega) k1.1 k1.2.1 k1.2.2.1 y0 (by omega) ?_
      rw [u1, u2]
      (conv => whnf); try simp only [gO, gWe, ne_eq, Nat.reduceEqDiff, not_false_eq_true, true_or, or_true, true_and]
      repeat' (first | exact True.intro | (refine ⟨fun hb => ?_, fun hb => ?_⟩ <;> first | (exfalso; omega; done) | exact absurd True.intro hb | ((conv => whnf); try simp only [gO, gWe, ne_eq, Nat.reduceEqDiff, not_false_eq_true, true_or, or_true, true_and])) | (refine ⟨by omega, ?_⟩; (conv => whnf); try simp only [gO, gWe, ne_eq, Nat.reduceEqDiff, not_false_eq_true, true_or, or_true, true_and]) | (refine ⟨fun hb => ?_, ?_⟩ <;> first | (exfalso; omega; done) | exact absurd True.intro hb | ((conv => whnf); try simp only [gO, gWe, ne_eq, Nat.reduceEqDiff, not_false_eq_true, true_or, or_true, true_and])) | fail)
      refine t_186 (by omega) k1 y0 (by omega) p0 (by omega) hb0 (fun ρ hρ e1 e2 e3 => ?_)
      rw [xW_c t1, u1, hWW] at e1
      rw [xN_c t1, u1, hNN] at e2
      (conv => whnf); try simp only [gO, gWe, ne_eq, Nat.reduceEqDiff, not_false_eq_true, true_or, or_true, true_and]
      repeat' (first | exact True.intro | (refine ⟨fun hb => ?_, fun hb => ?_⟩ <;> first | (exfalso; omega; done) | exact absurd True.intro hb | ((conv => whnf); try simp only [gO, gWe, ne_eq, Nat.reduceEqDiff, not_false_eq_true, true_or, or_true, true_and])) | (refine ⟨by omega, ?_⟩; (conv => whnf); try simp only [gO, gWe, ne_eq, Nat.reduceEqDiff, not_false_eq_true, true_or, or_true, true_and]) | (refine ⟨fun hb => ?_, ?_⟩ <;> first | (exfalso; omega; done) | exact absurd True.intro hb | ((conv => whnf); try simp only [gO, gWe, ne_eq, Nat.reduceEqDiff, not_false_eq_true, true_or, or_true, true_and])) | fail)
      refine ih ρ (hν.tr hρ) (fun r r0 r1 => ?_)
      by_cases c : r = p
      · subst c; exact ⟨e1, e2⟩
      · rw [(e3 r c).1, (e3 r c).2]; exact hw r r0 (by omega)
    · have t1 : hSt μ ν := hν.st (by decide)
      have u1 : (ν 23) y = (μ 23) y := by rw [t1 23 (by decide) (by decide)]
      have u2 : (ν 23) (y + 1) = (μ 23) (y + 1) := by rw [t1 23 (by decide) (by decide)]
      have u9 : (ν 9 1) = (μ 9 1) := by rw [t1 9 (by decide) (by decide)]
      have k1 : iK ν sq pl := iK_c t1 (hν.sm (by decide) (by decide) (by decide)) (hν 62 (by decide)) hK
      refine gB_gG [2,26] 300 ?_
      (conv => whnf); try simp only [gO, gWe, ne_eq, Nat.reduceEqDiff, not_false_eq_true, true_or, or_true, true_and]
      refine t_161 (by omega) k1.1 k1.2.1 k1.2.2.1 y0 (by omega) ?_
      rw [u1, u2]
      (conv => whnf); try simp only [gO, gWe, ne_eq, Nat.reduceEqDiff, not_false_eq_true, true_or, or_true, true_and]
      repeat' (first | exact True.intro | (refine ⟨fun hb => ?_, fun hb => ?_⟩ <;> first | (exfalso; omega; done) | exact absurd True.intro hb | ((conv => whnf); try simp only [gO, gWe, ne_eq, Nat.reduceEqDiff, not_false_eq_true, true_or, or_true, true_and])) | (refine ⟨by omega, ?_⟩; (conv => whnf); try simp only [gO, gWe, ne_eq, Nat.reduceEqDiff, not_false_eq_true, true_or, or_true, true_and]) | (refine ⟨fun hb => ?_, ?_⟩ <;> first | (exfalso; omega; done) | exact absurd True.intro hb | ((conv => whnf); try simp only [gO, gWe, ne_eq, Nat.reduceEqDiff, not_false_eq_true, true_or, or_true, true_and])) | fail)
      exact srt d (by omega) 1 (by omega) (by omega) ν _ _ _ (hν.mo (by decide)) (hSo.fr hν (by decide)) ⟨pl, k1, fun _ _ _ _ => rfl⟩ (fun r r0 r1 => hw r r0 (by omega))
  exact wl 0 (by omega) (by omega) μ gFr.rf (fun r r0 r1 => by omega)
theorem t_189 {D : Nat} (hD : 7 ≤ D) {μ : MU} {Q : GQ} {b : Int} {sq pl : Int → Int} (hK : iK μ sq pl) (hb0 : b = 0 ∨ b = 1) (hC : ∀ z : Int, 0 ≤ z → z < (μ 9 1) → iC μ sq z) (h : ∀ ν : MU, gFr [62, 71, 76, 77] μ ν → hSo μ ν → iK ν (swpA μ b (sq, pl)).1 (swpA μ b (sq, pl)).2 → Q none g_SH ν) : gCall g_T g_F D 189 [gR 61, gI b] g_SH μ Q := by
  have hM := hK.1
  have hN := hK.2.1
  have hG := hM.1
  have hL := hM.2.1
  have L := hL.2.2.2.1
  have S := hK.2.2.1.1
  have hOC : iOC μ (sq, pl) := ⟨hK.2.2.2.1, hC⟩
  unfold swpA at h
  obtain ⟨d, rfl⟩ := gD (show 1 ≤ D by omega)
  refine gC 300 [2] rfl ?_
  (conv => whnf); try simp only [gO, gWe, ne_eq, Nat.reduceEqDiff, not_false_eq_true, true_or, or_true, true_and]
  have key : ∀ y : Int, 1 ≤ y → y ≤ max 1 (μ 9 1) → ∀ ν : MU, gFr [62, 71, 76, 77] μ ν → hSo μ ν → iK ν (if b = 0 then swpU μ (sq, pl) (y - 1).toNat else swpD μ (sq, pl) (y - 1).toNat).1 (if b = 0 then swpU μ (sq, pl) (y - 1).toNat else swpD μ (sq, pl) (y - 1).toNat).2 → gG g_T g_F (gCall g_T g_F d) 0 (fun _ => 0) (g_T 189) Q 2 [gR 61, gI b, gI y] [] g_SH ν 0 0 := by
    refine g_up (fun y y0 y1 ih ν hν hso hk => ?_) (fun ν hν hso hk => ?_)
    · have t1 : hSt μ ν := hν.st (by decide)
      have u9 : (ν 9 1) = (μ 9 1) := by rw [t1 9 (by decide) (by decide)]
      have u4 := hk.2.2.1.1.2
      rw [show (y + 1 - 1).toNat = (y - 1).toNat + 1 by omega] at ih
      rcases hb0 with hb1 | hb1
      · subst hb1
        rw [if_pos rfl] at hk
        simp only [if_true] at ih
        have s1 : swpU μ (sq, pl) ((y - 1).toNat + 1) = swp1 μ ((μ 9 1) - 1 - y) ((μ 9 1) - 1 - y + 1) (swpU μ (sq, pl) (y - 1).toNat) := by
          show swp1 μ _ _ _ = _
          rw [show ((y - 1).toNat : Int) + 1 = y by omega, show (μ 9 1) - 1 - ((y - 1).toNat : Int) = (μ 9 1) - 1 - y + 1 by omega]
        rw [s1] at ih
        clear s1
        refine gB_gG [2] 300 ?_
        (conv => whnf); try simp only [gO, gWe, ne_eq, Nat.reduceEqDiff, not_false_eq_true, true_or, or_true, true_and]
        repeat' (first | exact True.intro | (refine ⟨fun hb => ?_, fun hb => ?_⟩ <;> first | (exfalso; omega; done) | exact absurd True.intro hb | ((conv => whnf); try simp only [gO, gWe, ne_eq, Nat.reduceEqDiff, not_false_eq_true, true_or, or_true, true_and])) | (refine ⟨by omega, ?_⟩; (conv => whnf); try simp only [gO, gWe, ne_eq, Nat.reduceEqDiff, not_false_eq_true, true_or, or_true, true_and]) | (refine ⟨fun hb => ?_, ?_⟩ <;> first | (exfalso; omega; done) | exact absurd True.intro hb | ((conv => whnf); try simp only [gO, gWe, ne_eq, Nat.reduceEqDiff, not_false_eq_true, true_or, or_true, true_and])) | fail)
        refine t_187 (by omega) hk (by omega) (by omega) (f := (ν 62 4) - 1 - y + 1) (Or.inr ⟨rfl, rfl⟩) (fun ρ hρ hso2 hk2 => ?_)
        rw [swp1_c t1, u4, u9] at hk2
        (conv => whnf); try simp only [gO, gWe, ne_eq, Nat.reduceEqDiff, not_false_eq_true, true_or, or_true, true_and]
        repeat' (first | exact True.intro | (refine ⟨fun hb => ?_, fun hb => ?_⟩ <;> first | (exfalso; omega; done) | exact absurd True.intro hb | ((conv => whnf); try simp only [gO, gWe, ne_eq, Nat.reduceEqDiff, not_false_eq_true, true_or, or_true, true_and])) | (refine ⟨by omega, ?_⟩; (conv => whnf); try simp only [gO, gWe, ne_eq, Nat.reduceEqDiff, not_false_eq_true, true_or, or_true, true_and]) | (refine ⟨fun hb => ?_, ?_⟩ <;> first | (exfalso; omega; done) | exact absurd True.intro hb | ((conv => whnf); try simp only [gO, gWe, ne_eq, Nat.reduceEqDiff, not_false_eq_true, true_or, or_true, true_and])) | fail)
        exact ih ρ (hν.tr hρ) (hso.tr hso2) hk2
      · subst hb1
        rw [if_neg (by omega)] at hk
        simp only [show ¬ (1 : Int) = 0 by omega, if_false] at ih
        have s1 : swpD μ (sq, pl) ((y - 1).toNat + 1) = swp1 μ y (y - 1) (swpD μ (sq, pl) (y - 1).toNat) := by
          show swp1 μ _ _ _ = _
          rw [show ((y - 1).toNat : Int) + 1 = y by omega, show ((y - 1).toNat : Int) = y - 1 by omega]
        rw [s1] at ih
        clear s1
        refine gB_gG [2] 300 ?_
        (conv => whnf); try simp only [gO, gWe, ne_eq, Nat.reduceEqDiff, not_false_eq_true, true_or, or_true, true_and]
        repeat' (first | exact True.intro | (refine ⟨fun hb => ?_, fun hb => ?_⟩ <;> first | (exfalso; omega; done) | exact absurd True.intro hb | ((conv => whnf); try simp only [gO, gWe, ne_eq, Nat.reduceEqDiff, not_false_eq_true, true_or, or_true, true_and])) | (refine ⟨by omega, ?_⟩; (conv => whnf); try simp only [gO, gWe, ne_eq, Nat.reduceEqDiff, not_false_eq_true, true_or, or_true, true_and]) | (refine ⟨fun hb => ?_, ?_⟩ <;> first | (exfalso; omega; done) | exact absurd True.intro hb | ((conv => whnf); try simp only [gO, gWe, ne_eq, Nat.reduceEqDiff, not_false_eq_true, true_or, or_true, true_and])) | fail)
        refine t_187 (by omega) hk (by omega) (by omega) (f := y - 1) (Or.inl ⟨rfl, rfl⟩) (fun ρ hρ hso2 hk2 => ?_)
        rw [swp1_c t1] at hk2
        (conv => whnf); try simp only [gO, gWe, ne_eq, Nat.reduceEqDiff, not_false_eq_true, true_or, or_true, true_and]
        repeat' (first | exact True.intro | (refine ⟨fun hb => ?_, fun hb => ?_⟩ <;> first | (exfalso; omega; done) | exact absurd True.intro hb | ((conv => whnf); try simp only [gO, gWe, ne_eq, Nat.reduceEqDiff, not_false_eq_true, true_or, or_true, true_and])) | (refine ⟨by omega, ?_⟩; (conv => whnf); try simp only [gO, gWe, ne_eq, Nat.reduceEqDiff, not_false_eq_true, true_or, or_true, true_and]) | (refine ⟨fun hb => ?_, ?_⟩ <;> first | (exfalso; omega; done) | exact absurd True.intro hb | ((conv => whnf); try simp only [gO, gWe, ne_eq, Nat.reduceEqDiff, not_false_eq_true, true_or, or_true, true_and])) | fail)
        exact ih ρ (hν.tr hρ) (hso.tr hso2) hk2
    · have t1 : hSt μ ν := hν.st (by decide)
      have u9 : (ν 9 1) = (μ 9 1) := by rw [t1 9 (by decide) (by decide)]
      have u4 := hk.2.2.1.1.2
      rw [show (max 1 (μ 9 1) - 1).toNat = ((μ 9 1) - 1).toNat by omega] at hk
      refine gB_gG [2] 300 ?_
      (conv => whnf); try simp only [gO, gWe, ne_eq, Nat.reduceEqDiff, not_false_eq_true, true_or, or_true, true_and]
      repeat' (first | exact True.intro | (refine ⟨fun hb => ?_, fun hb => ?_⟩ <;> first | (exfalso; omega; done) | exact absurd True.intro hb | ((conv => whnf); try simp only [gO, gWe, ne_eq, Nat.reduceEqDiff, not_false_eq_true, true_or, or_true, true_and])) | (refine ⟨by omega, ?_⟩; (conv => whnf); try simp only [gO, gWe, ne_eq, Nat.reduceEqDiff, not_false_eq_true, true_or, or_true, true_and]) | (refine ⟨fun hb => ?_, ?_⟩ <;> first | (exfalso; omega; done) | exact absurd True.intro hb | ((conv => whnf); try simp only [gO, gWe, ne_eq, Nat.reduceEqDiff, not_false_eq_true, true_or, or_true, true_and])) | fail)
      exact h ν hν hso hk
  exact key 1 (by omega) (by omega) μ gFr.rf hSo.rf (by
    have e : (if b = 0 then swpU μ (sq, pl) (1 - 1 : Int).toNat else swpD μ (sq, pl) (1 - 1 : Int).toNat) = (sq, pl) := by split <;> rfl
    rw [e]
    exact hK)
