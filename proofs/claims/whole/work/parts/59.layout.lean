/-! the case layOut -/
theorem t_165s {d : Nat} (hd : 11 ≤ d) {ρ : MU} {Q : GQ} {s : GO} {b : Int} (hMρ : iM ρ) (hNρ : iN ρ) (hNmρ : iNm ρ s.1) (kk : ∀ ω : MU, gFr [62, 71] ρ ω → hMg ρ ω → ω 62 2 = 1 → iDs ω → (∀ k : Int, 0 ≤ k → k < (ρ 19 2) → ω 62 (169 + k) = (ρ 20) ((clF ρ s (ρ 9 1).toNat).1 k)) → hPk ρ (clF ρ s (ρ 9 1).toNat).1 (fun k => ω 62 (229 + k)) → Q (some (gI ((ρ 19 2)))) g_SH ω) : ∀ y : Int, 0 ≤ y → y ≤ (ρ 9 1) → ∀ (τ : MU) (x3 : GV), hPu ρ τ s y 0 → ((ρ 9 1) = 0 → τ 62 129 = 0) → gG g_T g_F (gCall g_T g_F d) 0 (fun _ => 0) (g_T 165) Q 69 [gR 61, gI b, gI y, x3] [] g_SH τ 0 0 := by
  have G := hMρ.1.1
  have L := hMρ.2.1.2.2.2.1
  have V := hNρ.1
  have z0 := hMρ.2.2.1.1.1
  refine g_up (fun y y0 y1 ih τ x3 hP h9 => ?_) (fun τ x3 hP h9 => ?_)
  · have e130 := t_165e (Q := Q) (b := b) hd hMρ hNρ hNmρ y0 y1 (fun τ hP hS => t_165c hd hMρ hNρ hNmρ y0 y1 (fun ω hω => ih ω (gI (ρ 1 1)) hω (fun h => by omega)) hP hS) 0 (by omega) (by omega)
    have e97 := t_165n (Q := Q) (b := b) hd hMρ hNρ hNmρ y0 y1 e130 0 (by omega) (by omega)
    have k4 := hP.2.2.1
    have k3 := hP.2.2.2.1
    have nx : gG g_T g_F (gCall g_T g_F d) 0 (fun _ => 0) (g_T 165) Q 97 [gR 61, gI b, gI y, gI 0] [] g_SH (gW τ 62 (129 + y) (τ 62 3)) 0 0 := by
      refine e97 _ ?_ (by rw [gWe]; omega)
      obtain ⟨p1, p2, p3, p4, p5, p6, p7⟩ := hP
      have ne : ∀ k : Int, k ≠ 129 + y → gW τ 62 (129 + y) (τ 62 3) 62 k = τ 62 k := fun k hk => gWn _ _ _ hk
      refine ⟨p1.W (by decide), fun k hk => by rw [ne k (by omega)]; exact p2 k hk, by rw [ne 4 (by omega)]; exact p3, by rw [ne 3 (by omega)]; exact p4, fun z z0 z1 => ?_, fun k k0 k1 => by rw [ne _ (by omega)]; exact p6 k k0 k1, fun k k0 k1 => ?_⟩
      · rw [ne (129 + z) (by omega)]
        refine ⟨(p5 z z0 z1).1, ?_⟩
        by_cases c : z + 1 = y
        · rw [c, gWe]; omega
        · rw [ne _ (by omega)]; exact (p5 z z0 z1).2
      · have : hCn ρ y (0 : Int).toNat = 0 := rfl
        omega
    clear e97 e130 ih hP h9
    refine gB_gG [69,97] 300 ?_
    (conv => whnf); try simp only [gO, gWe, ne_eq, Nat.reduceEqDiff, not_false_eq_true, true_or, or_true, true_and]
    repeat' (first | exact True.intro | (refine ⟨fun hb => ?_, fun hb => ?_⟩ <;> first | (exfalso; omega; done) | exact absurd True.intro hb | ((conv => whnf); try simp only [gO, gWe, ne_eq, Nat.reduceEqDiff, not_false_eq_true, true_or, or_true, true_and])) | (refine ⟨by omega, ?_⟩; (conv => whnf); try simp only [gO, gWe, ne_eq, Nat.reduceEqDiff, not_false_eq_true, true_or, or_true, true_and]) | (refine ⟨fun hb => ?_, ?_⟩ <;> first | (exfalso; omega; done) | exact absurd True.intro hb | ((conv => whnf); try simp only [gO, gWe, ne_eq, Nat.reduceEqDiff, not_false_eq_true, true_or, or_true, true_and])) | fail)
    exact nx
  · obtain ⟨p1, p2, p3, p4, p5, p6, p7⟩ := hP
    have s0 := hNρ.2.2.2.2.2.1
    have sL := hNρ.2.2.2.2.2.2.1
    have q2 : hMg ρ (gW τ 62 2 1) := fun k hk => by rw [gWn _ _ _ (by omega)]; exact p2 k hk
    have p1' : gFr [62, 71] ρ (gW τ 62 2 1) := p1.W (by decide)
    have sτ : hSt ρ (gW τ 62 2 1) := p1'.st (by decide)
    have hMτ : iM (gW τ 62 2 1) := ⟨iG_c sτ hMρ.1, iL_c sτ hMρ.2.1, iGm_g hMρ.1 sτ.g q2 hMρ.2.2.1, iFd_c sτ (p1' 66 (by decide)) (p1' 67 (by decide)) hMρ.2.2.2⟩
    have oc := clF_e hMρ.1 hMρ.2.1 hNρ hNmρ
    have ids : iDs (gW τ 62 2 1) := by
      unfold iDs
      rw [sτ 19 (by decide) (by decide), sτ 9 (by decide) (by decide), sτ 23 (by decide) (by decide)]
      refine ⟨⟨by rw [gWn _ _ _ (by omega)]; omega, by rw [gWn _ _ _ (by omega)]; exact p3⟩, fun y y0 y1 => ?_⟩
      rw [gWn _ _ _ (by omega)]
      by_cases c : y = 0
      · by_cases c2 : (ρ 9 1) = 0
        · rw [c, s0]; exact h9 c2
        · rw [c]; exact (p5 0 (by omega) (by omega)).1
      · have := (p5 (y - 1) (by omega) (by omega)).2
        rw [show y - 1 + 1 = y by omega] at this
        exact this
    generalize hgs : clF ρ s (ρ 9 1).toNat = t at *
    have hK : iK (gW τ 62 2 1) t.1 t.2 := by
      refine ⟨hMτ, iN_c sτ hNρ, ids, iO_c sτ oc.1, fun k k0 k1 => ?_⟩
      rw [sτ 19 (by decide) (by decide)] at k1
      rw [gWn _ _ _ (by omega), sτ 20 (by decide) (by decide)]
      exact p6 k k0 (by omega)
    have fin : ∀ ω : MU, gFr [62] (gW τ 62 2 1) ω → hSl (gW τ 62 2 1) ω → (∀ y k : Int, 0 ≤ y → y < (gW τ 62 2 1) 9 1 → (gW τ 62 2 1) 23 y ≤ k → k < (gW τ 62 2 1) 23 (y + 1) → ω 62 (229 + k) = pkX (gW τ 62 2 1) t.1 y k) → Q (some (gI ((ρ 19 2)))) g_SH ω := fun ω hω hsl hl => by
      have sω := hω.st (l := [62]) (by decide)
      refine kk ω (p1'.tr (hω.mo (by decide))) (fun k hk => by rw [hsl k (by omega)]; exact q2 k hk) (by rw [hsl 2 (by omega)]; exact gWe _ _ _ _) (iDs_c sω (hsl.sm hω (by decide) (by decide)) hMτ.2.1 ids) (fun k k0 k1 => ?_) (fun y k y0 y1 k0 k1 => ?_)
      · rw [hsl _ (by omega)]
        have := hK.2.2.2.2 k k0 (by rw [sτ 19 (by decide) (by decide)]; exact k1)
        rw [sτ 20 (by decide) (by decide)] at this
        exact this
      · have e := hl y k y0 (by rw [sτ 9 (by decide) (by decide)]; exact y1) (by rw [sτ 23 (by decide) (by decide)]; exact k0) (by rw [sτ 23 (by decide) (by decide)]; exact k1)
        rw [pkX_c sτ] at e
        exact e
    have v3 : ∀ ω : MU, hSl (gW τ 62 2 1) ω → ω 62 3 = (ρ 19 2) := fun ω hsl => by
      rw [hsl 3 (by omega), gWn _ _ _ (by omega)]; omega
    clear p2 p5 p6 p7 kk ids hgs oc h9
    refine gB_gG [69] 300 ?_
    (conv => whnf); try simp only [gO, gWe, ne_eq, Nat.reduceEqDiff, not_false_eq_true, true_or, or_true, true_and]
    repeat' (first | exact True.intro | (refine ⟨fun hb => ?_, fun hb => ?_⟩ <;> first | (exfalso; omega; done) | exact absurd True.intro hb | ((conv => whnf); try simp only [gO, gWe, ne_eq, Nat.reduceEqDiff, not_false_eq_true, true_or, or_true, true_and])) | (refine ⟨by omega, ?_⟩; (conv => whnf); try simp only [gO, gWe, ne_eq, Nat.reduceEqDiff, not_false_eq_true, true_or, or_true, true_and]) | (refine ⟨fun hb => ?_, ?_⟩ <;> first | (exfalso; omega; done) | exact absurd True.intro hb | ((conv => whnf); try simp only [gO, gWe, ne_eq, Nat.reduceEqDiff, not_false_eq_true, true_or, or_true, true_and])) | fail)
    refine t_198 (by omega) hK (fun ω hω hsl hl => ?_)
    have f := fin ω hω hsl hl
    rw [← v3 ω hsl] at f
    (conv => whnf); try simp only [gO, gWe, ne_eq, Nat.reduceEqDiff, not_false_eq_true, true_or, or_true, true_and]
    repeat' (first | exact True.intro | (refine ⟨fun hb => ?_, fun hb => ?_⟩ <;> first | (exfalso; omega; done) | exact absurd True.intro hb | ((conv => whnf); try simp only [gO, gWe, ne_eq, Nat.reduceEqDiff, not_false_eq_true, true_or, or_true, true_and])) | (refine ⟨by omega, ?_⟩; (conv => whnf); try simp only [gO, gWe, ne_eq, Nat.reduceEqDiff, not_false_eq_true, true_or, or_true, true_and]) | (refine ⟨fun hb => ?_, ?_⟩ <;> first | (exfalso; omega; done) | exact absurd True.intro hb | ((conv => whnf); try simp only [gO, gWe, ne_eq, Nat.reduceEqDiff, not_false_eq_true, true_or, or_true, true_and])) | fail)
    exact f
theorem t_165 {D : Nat} (hD : 12 ≤ D) {ν : MU} {Q : GQ} {s : GO} (hG : iG ν) (hL : iL ν) (hM : iGm ν) (hF : iF ν) (h9 : ν 62 129 = 0)
    (kf : 60 < (ν 1 0) + xTot ν - (ν 1 1) → ∀ ρ : MU, gFr [61, 66, 67, 68, 69, 70] ν ρ → (∀ j : Int, j ≠ 5 → ρ 61 j = ν 61 j) → (ρ 61 5) = 1 → iFd ρ → Q (some (gI (-2))) g_SH ρ)
    (ko : ¬ 60 < (ν 1 0) + xTot ν - (ν 1 1) → iN ν ∧ iNm ν s.1 ∧ ∀ τ : MU, gFr [61, 62, 66, 67, 68, 69, 70, 71] ν τ → (∀ j : Int, j ≠ 5 → τ 61 j = ν 61 j) → (τ 61 5) = 1 → iM τ → iDs τ → τ 62 2 = 1 → (∀ k : Int, 0 ≤ k → k < (ν 19 2) → τ 62 (169 + k) = (ν 20) ((clF ν s (ν 9 1).toNat).1 k)) → hPk ν (clF ν s (ν 9 1).toNat).1 (fun k => τ 62 (229 + k)) → Q (some (gI ((ν 19 2)))) g_SH τ) : gCall g_T g_F D 165 [gR 61] g_SH ν Q := by
  have G := hG.1
  have L := hL.2.2.2.1
  have bt := hBn_t hG
  obtain ⟨d, rfl⟩ := gD (show 1 ≤ D by omega)
  refine gC 300 [8] rfl ?_
  (conv => whnf); try simp only [gO, gWe, ne_eq, Nat.reduceEqDiff, not_false_eq_true, true_or, or_true, true_and]
  refine t_146 (by omega) hG hL hM hF (fun ρ hρ h61 hf hd => ?_)
  have sρ : hSt ν ρ := hρ.st (by decide)
  have e1 : (ρ 1 0) = (ν 1 0) := by rw [sρ 1 (by decide) (by decide)]
  have e2 : (ρ 1 1) = (ν 1 1) := by rw [sρ 1 (by decide) (by decide)]
  have e9 : (ρ 9 1) = (ν 9 1) := by rw [sρ 9 (by decide) (by decide)]
  have e14 : (ρ 14) = (ν 14) := sρ 14 (by decide) (by decide)
  have e15 : (ρ 15) = (ν 15) := sρ 15 (by decide) (by decide)
  have e62 : ρ 62 = ν 62 := hρ 62 (by decide)
  have hMρ : iM ρ := ⟨iG_c sρ hG, iL_c sρ hL, iGm_g hG sρ.g (fun k _ => by rw [e62]) hM, hd⟩
  have z0 : ρ 62 0 = (ν 1 0) := by have := hMρ.2.2.1.1.1; omega
  have z1 : ρ 62 1 = (ν 1 1) := by have := hMρ.2.2.1.1.2; omega
  have bb := hBn_m hG hL (Int.le_refl 0) (show 0 ≤ (ν 1 1) by omega) (Int.le_refl _)
  have z00 : hBn ν 0 = 0 := rfl
  have tb : hBn ν (ν 1 1) ≤ 660 := by
    have := gSum_b (f := fun j => (ν 15) j - (ν 14) j - 1) (a := 0) (b := 33) (ν 1 1).toNat (fun i i0 i1 => by
      have E := iE hG hL i0 (show i < (ν 1 1) by omega)
      show 0 ≤ (ν 15) i - (ν 14) i - 1 ∧ (ν 15) i - (ν 14) i - 1 ≤ 33
      omega)
    unfold hBn
    omega
  have rest : ∀ (x3 : GV), gG g_T g_F (gCall g_T g_F d) 0 (fun _ => 0) (g_T 165) Q 34 [gR 61, gI (hBn ν (ν 1 1)), gI (ν 1 1), x3] [] g_SH ρ 0 0 := by
    intro x3
    by_cases cf : 60 < (ν 1 0) + xTot ν - (ν 1 1)
    · have f := kf cf ρ hρ h61 hf hd
      refine gB_gG [] 300 ?_
      (conv => whnf); try simp only [gO, gWe, ne_eq, Nat.reduceEqDiff, not_false_eq_true, true_or, or_true, true_and]
      repeat' (first | exact True.intro | (refine ⟨fun hb => ?_, fun hb => ?_⟩ <;> first | (exfalso; omega; done) | exact absurd True.intro hb | ((conv => whnf); try simp only [gO, gWe, ne_eq, Nat.reduceEqDiff, not_false_eq_true, true_or, or_true, true_and])) | (refine ⟨by omega, ?_⟩; (conv => whnf); try simp only [gO, gWe, ne_eq, Nat.reduceEqDiff, not_false_eq_true, true_or, or_true, true_and]) | (refine ⟨fun hb => ?_, ?_⟩ <;> first | (exfalso; omega; done) | exact absurd True.intro hb | ((conv => whnf); try simp only [gO, gWe, ne_eq, Nat.reduceEqDiff, not_false_eq_true, true_or, or_true, true_and])) | fail)
      exact f
    · obtain ⟨hN, hNm, k⟩ := ko cf
      have V := hN.1
      have hNρ := iN_c sρ hN
      have e19 : (ρ 19 2) = (ν 19 2) := by rw [sρ 19 (by decide) (by decide)]
      have cc : clF ρ = clF ν := by
        funext s n
        induction n with
        | zero => rfl
        | succ n ih => unfold clF clo2 cloS; rw [ih, hClo_c sρ, sρ 23 (by decide) (by decide)]
      have hNmρ : iNm ρ s.1 := by
        unfold iNm hCn at *
        rw [sρ 19 (by decide) (by decide), sρ 21 (by decide) (by decide), sρ 23 (by decide) (by decide)]
        exact hNm
      have s0 := hNρ.2.2.2.2.2.1
      have go := t_165s (Q := Q) (b := hBn ν (ν 1 1)) (d := d) (by omega) hMρ hNρ hNmρ (fun ω hω hm h2 hids ho hl => by
        have sω : hSt ρ ω := hω.st (by decide)
        rw [e19]
        refine k ω ((hρ.mo (by decide)).tr (hω.mo (by decide))) (fun j hj => by rw [hω 61 (by decide)]; exact h61 j hj) (by rw [hω 61 (by decide)]; exact hf) ⟨iG_c sω hMρ.1, iL_c sω hMρ.2.1, iGm_g hMρ.1 sω.g hm hMρ.2.2.1, iFd_c sω (hω 66 (by decide)) (hω 67 (by decide)) hMρ.2.2.2⟩ hids h2 (fun k k0 k1 => ?_) (fun y k y0 y1 k0 k1 => ?_)
        · have := ho k k0 (by rw [e19]; exact k1)
          rw [cc, e9, sρ 20 (by decide) (by decide)] at this
          exact this
        · have := hl y k y0 (by rw [e9]; exact y1) (by rw [sρ 23 (by decide) (by decide)]; exact k0) (by rw [sρ 23 (by decide) (by decide)]; exact k1)
          rw [cc, e9, pkX_c sρ] at this
          exact this) 0 (by omega) (by omega) (gW (gW ρ 62 4 (ν 9 1)) 62 3 0) x3 ⟨(gFr.rf.W (by decide)).W (by decide), fun k hk => by rw [gWn _ _ _ (by omega), gWn _ _ _ (by omega)], by rw [gWn _ _ _ (by omega), gWe, e9], by rw [gWe]; omega, fun z z0 z1 => by omega, fun k k0 k1 => by omega, fun k k0 k1 => by omega⟩ (fun _ => by rw [gWn _ _ _ (by omega), gWn _ _ _ (by omega), e62]; exact h9)
      clear kf ko k
      refine gB_gG [69] 300 ?_
      (conv => whnf); try simp only [gO, gWe, ne_eq, Nat.reduceEqDiff, not_false_eq_true, true_or, or_true, true_and]
      repeat' (first | exact True.intro | (refine ⟨fun hb => ?_, fun hb => ?_⟩ <;> first | (exfalso; omega; done) | exact absurd True.intro hb | ((conv => whnf); try simp only [gO, gWe, ne_eq, Nat.reduceEqDiff, not_false_eq_true, true_or, or_true, true_and])) | (refine ⟨by omega, ?_⟩; (conv => whnf); try simp only [gO, gWe, ne_eq, Nat.reduceEqDiff, not_false_eq_true, true_or, or_true, true_and]) | (refine ⟨fun hb => ?_, ?_⟩ <;> first | (exfalso; omega; done) | exact absurd True.intro hb | ((conv => whnf); try simp only [gO, gWe, ne_eq, Nat.reduceEqDiff, not_false_eq_true, true_or, or_true, true_and])) | fail)
      refine t_154 (by omega) hMρ ?_
      rw [e9]
      (conv => whnf); try simp only [gO, gWe, ne_eq, Nat.reduceEqDiff, not_false_eq_true, true_or, or_true, true_and]
      repeat' (first | exact True.intro | (refine ⟨fun hb => ?_, fun hb => ?_⟩ <;> first | (exfalso; omega; done) | exact absurd True.intro hb | ((conv => whnf); try simp only [gO, gWe, ne_eq, Nat.reduceEqDiff, not_false_eq_true, true_or, or_true, true_and])) | (refine ⟨by omega, ?_⟩; (conv => whnf); try simp only [gO, gWe, ne_eq, Nat.reduceEqDiff, not_false_eq_true, true_or, or_true, true_and]) | (refine ⟨fun hb => ?_, ?_⟩ <;> first | (exfalso; omega; done) | exact absurd True.intro hb | ((conv => whnf); try simp only [gO, gWe, ne_eq, Nat.reduceEqDiff, not_false_eq_true, true_or, or_true, true_and])) | fail)
      exact go
  have key : ∀ e : Int, 0 ≤ e → e ≤ (ν 1 1) → ∀ x3 : GV, gG g_T g_F (gCall g_T g_F d) 0 (fun _ => 0) (g_T 165) Q 8 [gR 61, gI (hBn ν e), gI e, x3] [] g_SH ρ 0 0 := by
    refine g_up (fun e i0 i1 ih x3 => ?_) (fun x3 => ?_)
    · have E := iE hG hL i0 i1
      have m1 := hBn_m hG hL (Int.le_refl 0) i0 (show e ≤ (ν 1 1) by omega)
      have m2 := hBn_m hG hL i0 (show e ≤ (ν 1 1) by omega) (Int.le_refl _)
      have f14 : (ρ 14) e = (ν 14) e := by rw [e14]
      have f15 : (ρ 15) e = (ν 15) e := by rw [e15]
      have i := ih x3
      rw [hBn_s i0] at i
      clear kf ko rest ih
      refine gB_gG [8] 300 ?_
      (conv => whnf); try simp only [gO, gWe, ne_eq, Nat.reduceEqDiff, not_false_eq_true, true_or, or_true, true_and]
      repeat' (first | exact True.intro | (refine ⟨fun hb => ?_, fun hb => ?_⟩ <;> first | (exfalso; omega; done) | exact absurd True.intro hb | ((conv => whnf); try simp only [gO, gWe, ne_eq, Nat.reduceEqDiff, not_false_eq_true, true_or, or_true, true_and])) | (refine ⟨by omega, ?_⟩; (conv => whnf); try simp only [gO, gWe, ne_eq, Nat.reduceEqDiff, not_false_eq_true, true_or, or_true, true_and]) | (refine ⟨fun hb => ?_, ?_⟩ <;> first | (exfalso; omega; done) | exact absurd True.intro hb | ((conv => whnf); try simp only [gO, gWe, ne_eq, Nat.reduceEqDiff, not_false_eq_true, true_or, or_true, true_and])) | fail)
      refine t_150 (by omega) hMρ i0 (by omega) ?_
      rw [f14, f15]
      (conv => whnf); try simp only [gO, gWe, ne_eq, Nat.reduceEqDiff, not_false_eq_true, true_or, or_true, true_and]
      repeat' (first | exact True.intro | (refine ⟨fun hb => ?_, fun hb => ?_⟩ <;> first | (exfalso; omega; done) | exact absurd True.intro hb | ((conv => whnf); try simp only [gO, gWe, ne_eq, Nat.reduceEqDiff, not_false_eq_true, true_or, or_true, true_and])) | (refine ⟨by omega, ?_⟩; (conv => whnf); try simp only [gO, gWe, ne_eq, Nat.reduceEqDiff, not_false_eq_true, true_or, or_true, true_and]) | (refine ⟨fun hb => ?_, ?_⟩ <;> first | (exfalso; omega; done) | exact absurd True.intro hb | ((conv => whnf); try simp only [gO, gWe, ne_eq, Nat.reduceEqDiff, not_false_eq_true, true_or, or_true, true_and])) | fail)
      exact i
    · have nx := rest x3
      clear kf ko rest
      refine gB_gG [8,34] 300 ?_
      (conv => whnf); try simp only [gO, gWe, ne_eq, Nat.reduceEqDiff, not_false_eq_true, true_or, or_true, true_and]
      repeat' (first | exact True.intro | (refine ⟨fun hb => ?_, fun hb => ?_⟩ <;> first | (exfalso; omega; done) | exact absurd True.intro hb | ((conv => whnf); try simp only [gO, gWe, ne_eq, Nat.reduceEqDiff, not_false_eq_true, true_or, or_true, true_and])) | (refine ⟨by omega, ?_⟩; (conv => whnf); try simp only [gO, gWe, ne_eq, Nat.reduceEqDiff, not_false_eq_true, true_or, or_true, true_and]) | (refine ⟨fun hb => ?_, ?_⟩ <;> first | (exfalso; omega; done) | exact absurd True.intro hb | ((conv => whnf); try simp only [gO, gWe, ne_eq, Nat.reduceEqDiff, not_false_eq_true, true_or, or_true, true_and])) | fail)
      exact nx
  have nx := fun x => key 0 (by omega) (by omega) x
  simp only [z00] at nx
  clear kf ko rest key
  (conv => whnf); try simp only [gO, gWe, ne_eq, Nat.reduceEqDiff, not_false_eq_true, true_or, or_true, true_and]
  repeat' (first | exact True.intro | (refine ⟨fun hb => ?_, fun hb => ?_⟩ <;> first | (exfalso; omega; done) | exact absurd True.intro hb | ((conv => whnf); try simp only [gO, gWe, ne_eq, Nat.reduceEqDiff, not_false_eq_true, true_or, or_true, true_and])) | (refine ⟨by omega, ?_⟩; (conv => whnf); try simp only [gO, gWe, ne_eq, Nat.reduceEqDiff, not_false_eq_true, true_or, or_true, true_and]) | (refine ⟨fun hb => ?_, ?_⟩ <;> first | (exfalso; omega; done) | exact absurd True.intro hb | ((conv => whnf); try simp only [gO, gWe, ne_eq, Nat.reduceEqDiff, not_false_eq_true, true_or, or_true, true_and])) | fail)
  exact nx _
/-- the drawing has been laid out anew -/
theorem fin_l {μ τ : MU} (hA : iAll μ) (hR : hRs μ τ) (h65 : τ 65 = μ 65) (hM : iM τ) (hf : (τ 61 5) = 1) (hl : (τ 0 6) = 1) (hN : iN τ) (hO : iO τ (τ 24) (τ 25)) (hC : ∀ z : Int, 0 ≤ z → z < (τ 9 1) → iC τ (τ 24) z) (hS : iDs τ) (m2 : τ 62 2 = 1) (hq : ∀ k : Int, 0 ≤ k → k < (τ 19 2) → τ 62 (169 + k) = (τ 20) ((τ 24) k)) (hX : hPk τ (τ 24) (fun k => (τ 34) ((τ 24) k))) (hx : hPk τ (τ 24) (fun k => τ 62 (229 + k))) : iAll τ := by
  have L := hM.2.1.2.2.2.1
  refine ⟨⟨hM.1, hM.2.1, Or.inr hl, fun _ => ⟨hN, hO, hC, fun v v0 v1 => ?_⟩⟩, ⟨hM.2.2.1, ⟨by rw [m2, hl], (hS.2 0 (by omega) (by omega)).trans hN.2.2.2.2.2.1⟩, fun _ => ⟨hS, hq, fun k k0 k1 => ?_⟩⟩, ⟨Or.inr hf, fun _ => hM.2.2.2⟩, hRs_T hR h65 hA.2.2.2.1, hRs_S hR hA.2.2.2.2⟩
  · have b := iO_v hM.1 hM.2.1 hN hO v0 v1
    have c := hX _ _ b.1.1 b.1.2 (show (τ 23) ((τ 21) v) ≤ (τ 23) ((τ 21) v) + (τ 25) v by have := b.2.1; omega) b.2.2.1.2.1
    have e := pkX_b (sq := (τ 24)) (pl := (τ 25)) hM.1 hM.2.1 hN hO b.1.1 b.1.2 (show (τ 23) ((τ 21) v) ≤ (τ 23) ((τ 21) v) + (τ 25) v by have := b.2.1; omega) (Int.le_of_lt b.2.2.1.2.1)
    have c' : (τ 34) ((τ 24) ((τ 23) ((τ 21) v) + (τ 25) v)) = _ := c
    have b4 : (τ 24) ((τ 23) ((τ 21) v) + (τ 25) v) = v := b.2.2.2
    rw [b4] at c'
    omega
  · obtain ⟨y, y0, y1, y2, y3⟩ := iN_ly hM.1 hM.2.1 hN k0 k1
    exact (hx y k y0 y1 y2 y3).trans (hX y k y0 y1 y2 y3).symm
theorem hTot_b {μ : MU} (hG : iG μ) (hL : iL μ) : 0 ≤ xTot μ ∧ xTot μ ≤ 660 := by
  have G := hG.1
  have := gSum_b (f := fun j => (μ 15) j - (μ 14) j) (a := 0) (b := 33) (μ 1 1).toNat (fun i i0 i1 => by
    have E := iE hG hL i0 (show i < (μ 1 1) by omega)
    show 0 ≤ (μ 15) i - (μ 14) i ∧ (μ 15) i - (μ 14) i ≤ 33
    omega)
  unfold xTot
  omega
theorem c_89 {D : Nat} (hD : 30 ≤ D) {μ : MU} (hA : iAll μ) : hCs D 89 165 [] μ := by
  intro Q Q' h h'
  have hG := hA.1.1
  have hL := hA.1.2.1
  have G := hG.1
  have xb := hTot_b hG hL
  have m9 := hA.2.1.2.1.2
  obtain ⟨d, rfl⟩ := gD (show 1 ≤ D by omega)
  refine gC 300 [] rfl ?_
  (conv => whnf); try simp only [gO, gWe, ne_eq, Nat.reduceEqDiff, not_false_eq_true, true_or, or_true, true_and]
  repeat' (first | exact True.intro | (refine ⟨fun hb => ?_, fun hb => ?_⟩ <;> first | (exfalso; omega; done) | exact absurd True.intro hb | ((conv => whnf); try simp only [gO, gWe, ne_eq, Nat.reduceEqDiff, not_false_eq_true, true_or, or_true, true_and])) | (refine ⟨by omega, ?_⟩; (conv => whnf); try simp only [gO, gWe, ne_eq, Nat.reduceEqDiff, not_false_eq_true, true_or, or_true, true_and]) | (refine ⟨fun hb => ?_, ?_⟩ <;> first | (exfalso; omega; done) | exact absurd True.intro hb | ((conv => whnf); try simp only [gO, gWe, ne_eq, Nat.reduceEqDiff, not_false_eq_true, true_or, or_true, true_and])) | fail)
  refine t_22 (by omega) hG hL ?_
  by_cases cf : 60 < (μ 1 0) + xTot μ - (μ 1 1)
  · (conv => whnf); try simp only [gO, gWe, ne_eq, Nat.reduceEqDiff, not_false_eq_true, true_or, or_true, true_and]
    repeat' (first | exact True.intro | (refine ⟨fun hb => ?_, fun hb => ?_⟩ <;> first | (exfalso; omega; done) | exact absurd True.intro hb | ((conv => whnf); try simp only [gO, gWe, ne_eq, Nat.reduceEqDiff, not_false_eq_true, true_or, or_true, true_and])) | (refine ⟨by omega, ?_⟩; (conv => whnf); try simp only [gO, gWe, ne_eq, Nat.reduceEqDiff, not_false_eq_true, true_or, or_true, true_and]) | (refine ⟨fun hb => ?_, ?_⟩ <;> first | (exfalso; omega; done) | exact absurd True.intro hb | ((conv => whnf); try simp only [gO, gWe, ne_eq, Nat.reduceEqDiff, not_false_eq_true, true_or, or_true, true_and])) | fail)
    refine h _ μ (t_165 (by omega) (s := ((μ 24), (μ 25))) hG hL hA.2.1.1 hA.2.2.1 m9 (fun _ ρ hρ h61 hf hd => ?_) (fun c => absurd cf c))
    exact h' _ _ ρ rfl (iAll_s hA ⟨hρ.mo (by decide), by rw [hρ 36 (by decide)], h61 4 (by omega)⟩ ⟨Or.inr hf, fun _ => hd⟩)
  · (conv => whnf); try simp only [gO, gWe, ne_eq, Nat.reduceEqDiff, not_false_eq_true, true_or, or_true, true_and]
    repeat' (first | exact True.intro | (refine ⟨fun hb => ?_, fun hb => ?_⟩ <;> first | (exfalso; omega; done) | exact absurd True.intro hb | ((conv => whnf); try simp only [gO, gWe, ne_eq, Nat.reduceEqDiff, not_false_eq_true, true_or, or_true, true_and])) | (refine ⟨by omega, ?_⟩; (conv => whnf); try simp only [gO, gWe, ne_eq, Nat.reduceEqDiff, not_false_eq_true, true_or, or_true, true_and]) | (refine ⟨fun hb => ?_, ?_⟩ <;> first | (exfalso; omega; done) | exact absurd True.intro hb | ((conv => whnf); try simp only [gO, gWe, ne_eq, Nat.reduceEqDiff, not_false_eq_true, true_or, or_true, true_and])) | fail)
    refine t_35 (by omega) hG hL (by omega) (fun ν₁ s hν₁ hv hN hNm hs => ?_)
    have g1 : hSg μ ν₁ := fun c a b => hν₁ c (by simp only [List.mem_cons, List.not_mem_nil, or_false]; omega)
    have hG1 := iG_g g1 hG
    have hL1 := iL_g g1 hL
    have oc := clF_e hG1 hL1 hN hNm
    rw [← hs] at oc
    (conv => whnf); try simp only [gO, gWe, ne_eq, Nat.reduceEqDiff, not_false_eq_true, true_or, or_true, true_and]
    repeat' (first | exact True.intro | (refine ⟨fun hb => ?_, fun hb => ?_⟩ <;> first | (exfalso; omega; done) | exact absurd True.intro hb | ((conv => whnf); try simp only [gO, gWe, ne_eq, Nat.reduceEqDiff, not_false_eq_true, true_or, or_true, true_and])) | (refine ⟨by omega, ?_⟩; (conv => whnf); try simp only [gO, gWe, ne_eq, Nat.reduceEqDiff, not_false_eq_true, true_or, or_true, true_and]) | (refine ⟨fun hb => ?_, ?_⟩ <;> first | (exfalso; omega; done) | exact absurd True.intro hb | ((conv => whnf); try simp only [gO, gWe, ne_eq, Nat.reduceEqDiff, not_false_eq_true, true_or, or_true, true_and])) | fail)
    refine t_1 (by omega) hG1 hL1 hN (pl := (ν₁ 25)) oc.1 (fun ν₂ hν₂ hl => ?_)
    have sν₂ : hSt ν₁ ν₂ := hν₂.st (by decide)
    (conv => whnf); try simp only [gO, gWe, ne_eq, Nat.reduceEqDiff, not_false_eq_true, true_or, or_true, true_and]
    repeat' (first | exact True.intro | (refine ⟨fun hb => ?_, fun hb => ?_⟩ <;> first | (exfalso; omega; done) | exact absurd True.intro hb | ((conv => whnf); try simp only [gO, gWe, ne_eq, Nat.reduceEqDiff, not_false_eq_true, true_or, or_true, true_and])) | (refine ⟨by omega, ?_⟩; (conv => whnf); try simp only [gO, gWe, ne_eq, Nat.reduceEqDiff, not_false_eq_true, true_or, or_true, true_and]) | (refine ⟨fun hb => ?_, ?_⟩ <;> first | (exfalso; omega; done) | exact absurd True.intro hb | ((conv => whnf); try simp only [gO, gWe, ne_eq, Nat.reduceEqDiff, not_false_eq_true, true_or, or_true, true_and])) | fail)
    (conv => whnf); try simp only [gO, gWe, ne_eq, Nat.reduceEqDiff, not_false_eq_true, true_or, or_true, true_and]
    repeat' (first | exact True.intro | (refine ⟨fun hb => ?_, fun hb => ?_⟩ <;> first | (exfalso; omega; done) | exact absurd True.intro hb | ((conv => whnf); try simp only [gO, gWe, ne_eq, Nat.reduceEqDiff, not_false_eq_true, true_or, or_true, true_and])) | (refine ⟨by omega, ?_⟩; (conv => whnf); try simp only [gO, gWe, ne_eq, Nat.reduceEqDiff, not_false_eq_true, true_or, or_true, true_and]) | (refine ⟨fun hb => ?_, ?_⟩ <;> first | (exfalso; omega; done) | exact absurd True.intro hb | ((conv => whnf); try simp only [gO, gWe, ne_eq, Nat.reduceEqDiff, not_false_eq_true, true_or, or_true, true_and])) | fail)
    have f0 : gFr [0, 19, 20, 21, 22, 23, 24, 25, 28, 34] μ (gW ν₂ 0 6 1) := ((hν₁.mo (by decide)).tr (hν₂.mo (by decide))).W (by decide)
    have l0 : gW ν₂ 0 6 1 0 6 = 1 := gWe _ _ _ _
    have s01 : hSt ν₁ (gW ν₂ 0 6 1) := fun c a b => (gO (show c ≠ 0 by omega)).trans (sν₂ c a b)
    have o1 : (gW ν₂ 0 6 1) 24 = (ν₁ 24) := hν₂ 24 (by decide)
    have o2 : (gW ν₂ 0 6 1) 25 = (ν₁ 25) := hν₂ 25 (by decide)
    have v2 : ν₂ 19 2 = (gW ν₂ 0 6 1) 19 2 := rfl
    have hl' : ∀ y k : Int, 0 ≤ y → y < (ν₁ 9 1) → (ν₁ 23) y ≤ k → k < (ν₁ 23) (y + 1) → (gW ν₂ 0 6 1) 34 ((ν₁ 24) k) = pkX ν₁ (ν₁ 24) y k := hl
    rw [v2]
    generalize gW ν₂ 0 6 1 = ν at *
    have gν : hSg μ ν := fun c a b => f0 c (by simp only [List.mem_cons, List.not_mem_nil, or_false]; omega)
    have hGν := iG_g gν hG
    have hLν := iL_g gν hL
    have hNν := iN_c s01 hN
    have e62 : ν 62 = μ 62 := f0 62 (by decide)
    have hMν : iGm ν := iGm_g hG gν (fun k _ => by rw [e62]) hA.2.1.1
    have hFν : iF ν := by
      refine ⟨by rw [f0 61 (by decide)]; exact hA.2.2.1.1, fun hf => iFd_g gν (f0 66 (by decide)) (f0 67 (by decide)) (hA.2.2.1.2 (by rw [f0 61 (by decide)] at hf; exact hf))⟩
    have hNmν : iNm ν s.1 := by
      unfold iNm hCn at *
      rw [s01 19 (by decide) (by decide), s01 21 (by decide) (by decide), s01 23 (by decide) (by decide)]
      exact hNm
    have cc : clF ν = clF ν₁ := by
      funext s n
      induction n with
      | zero => rfl
      | succ n ih => unfold clF clo2 cloS; rw [ih, hClo_c s01, s01 23 (by decide) (by decide)]
    have q9 : (ν 9 1) = (ν₁ 9 1) := by rw [s01 9 (by decide) (by decide)]
    have seq1 : (clF ν s (ν 9 1).toNat).1 = (ν₁ 24) := by rw [cc, q9, ← hs]
    have x1 : (ν 1 0) = (μ 1 0) := by rw [gν 1 (by decide) (by decide)]
    have x2 : (ν 1 1) = (μ 1 1) := by rw [gν 1 (by decide) (by decide)]
    have x3 : xTot ν = xTot μ := by
      unfold xTot
      rw [gν 1 (by decide) (by decide), gν 14 (by decide) (by decide), gν 15 (by decide) (by decide)]
    refine h _ ν (t_165 (by omega) (s := s) hGν hLν hMν hFν (by rw [e62]; exact m9) (fun c => absurd (by rw [← x1, ← x2, ← x3]; exact c) cf) (fun _ => ⟨hNν, hNmν, fun τ hτ h61 hf hMτ hS m2 hq hx => ?_⟩))
    have sτ : hSt ν τ := hτ.st (by decide)
    have oc' : iOC τ ((τ 24), (τ 25)) := by
      rw [hτ 24 (by decide), hτ 25 (by decide), o1, o2]
      have st2 := s01.tr sτ
      exact ⟨iO_c st2 oc.1, fun z z0 z1 => iC_c st2 (oc.2 z z0 (by rw [st2 9 (by decide) (by decide)] at z1; exact z1))⟩
    have eseq : (τ 24) = (ν₁ 24) := by rw [hτ 24 (by decide), o1]
    rw [seq1] at hq hx
    have fτ : gFr [0, 19, 20, 21, 22, 23, 24, 25, 28, 34, 61, 62, 66, 67, 68, 69, 70, 71] μ τ := (f0.mo (by decide)).tr (hτ.mo (by decide))
    refine h' _ _ τ rfl (fin_l hA ⟨fun c a b => fτ c (fun hc => by simp only [List.mem_cons, List.not_mem_nil, or_false] at hc; omega), by rw [fτ 36 (by decide)], (h61 4 (by omega)).trans (by rw [f0 61 (by decide)]), fτ 63 (by decide), fτ 64 (by decide)⟩ (fτ 65 (by decide)) hMτ hf (by rw [hτ 0 (by decide)]; exact l0) (iN_c sτ hNν) oc'.1 oc'.2 hS m2 (fun k k0 k1 => ?_) (fun y k y0 y1 k0 k1 => ?_) (fun y k y0 y1 k0 k1 => ?_))
    · rw [sτ 19 (by decide) (by decide)] at k1
      rw [hq k k0 k1, eseq, sτ 20 (by decide) (by decide)]
    · have st2 := s01.tr sτ
      rw [st2 9 (by decide) (by decide)] at y1
      rw [st2 23 (by decide) (by decide)] at k0 k1
      rw [eseq, hτ 34 (by decide), pkX_c st2]
      exact hl' y k y0 y1 k0 k1
    · rw [sτ 9 (by decide) (by decide)] at y1
      rw [sτ 23 (by decide) (by decide)] at k0 k1
      rw [eseq, pkX_c sτ]
      have e := hx y k y0 y1 k0 k1
      exact e
