/-! the model lays out -/
def hSg (μ ν : MU) : Prop := ∀ c : Nat, 1 ≤ c → c ≤ 18 → ν c = μ c
theorem iG_g {μ ν : MU} (h : hSg μ ν) (x : iG μ) : iG ν := iG_f (h 1 (by decide) (by decide)) (h 2 (by decide) (by decide)) (h 3 (by decide) (by decide)) (h 4 (by decide) (by decide)) (h 5 (by decide) (by decide)) (h 6 (by decide) (by decide)) (h 7 (by decide) (by decide)) (h 8 (by decide) (by decide)) x
theorem iL_g {μ ν : MU} (h : hSg μ ν) (x : iL μ) : iL ν := by
  unfold iL iU at *
  rw [h 1 (by decide) (by decide), h 4 (by decide) (by decide), h 5 (by decide) (by decide), h 8 (by decide) (by decide), h 9 (by decide) (by decide), h 10 (by decide) (by decide), h 11 (by decide) (by decide), h 12 (by decide) (by decide), h 13 (by decide) (by decide), h 14 (by decide) (by decide), h 15 (by decide) (by decide)]
  exact x
theorem iFd_g {μ ν : MU} (h : hSg μ ν) (h6 : ν 66 = μ 66) (h7 : ν 67 = μ 67) (x : iFd μ) : iFd ν := by
  unfold iFd at *
  rw [h 1 (by decide) (by decide), h 10 (by decide) (by decide), h 13 (by decide) (by decide), h6, h7]
  exact x
def hMg (μ ν : MU) : Prop := ∀ k : Int, (0 ≤ k ∧ k < 2 ∨ 5 ≤ k ∧ k < 129) → ν 62 k = μ 62 k
theorem iGm_g {μ ν : MU} (hG : iG μ) (h : hSg μ ν) (h2 : hMg μ ν) (x : iGm μ) : iGm ν := by
  have G := hG.1
  unfold iGm at *
  rw [h 1 (by decide) (by decide), h 2 (by decide) (by decide), h 3 (by decide) (by decide), h 4 (by decide) (by decide), h 5 (by decide) (by decide), h 6 (by decide) (by decide), h 7 (by decide) (by decide), h 8 (by decide) (by decide)]
  refine ⟨by rw [h2 0 (by omega), h2 1 (by omega)]; exact x.1, fun i i0 i1 => ?_, fun e e0 e1 => ?_⟩
  · rw [h2 (5 + i) (by omega), h2 (17 + i) (by omega)]
    exact x.2.1 i i0 i1
  · rw [h2 (29 + 5 * e + 0) (by omega), h2 (29 + 5 * e + 1) (by omega), h2 (29 + 5 * e + 2) (by omega), h2 (29 + 5 * e + 3) (by omega), h2 (29 + 5 * e + 4) (by omega)]
    exact x.2.2 e e0 e1
theorem hSt.g {μ ν : MU} (h : hSt μ ν) : hSg μ ν := fun c a b => h c a (by omega)
theorem t_164 {D : Nat} (hD : 1 ≤ D) {μ : MU} {Q : GQ} {a : Int} (hV : 0 ≤ (μ 62 3) ∧ (μ 62 3) < 60) (h : Q none g_SH (gW (gW μ 62 (169 + (μ 62 3)) a) 62 3 ((μ 62 3) + 1))) : gCall g_T g_F D 164 [gR 61, gI a] g_SH μ Q := by
  have e : gW μ 62 (169 + (μ 62 3)) a 62 3 = (μ 62 3) := gWn _ _ _ (by omega)
  obtain ⟨d, rfl⟩ := gD (show 1 ≤ D by omega)
  refine gC 300 [] rfl ?_
  (conv => whnf); try simp only [gO, gWe, ne_eq, Nat.reduceEqDiff, not_false_eq_true, true_or, or_true, true_and]
  repeat' (first | exact True.intro | (refine ⟨fun hb => ?_, fun hb => ?_⟩ <;> first | (exfalso; omega; done) | exact absurd True.intro hb | ((conv => whnf); try simp only [gO, gWe, ne_eq, Nat.reduceEqDiff, not_false_eq_true, true_or, or_true, true_and])) | (refine ⟨by omega, ?_⟩; (conv => whnf); try simp only [gO, gWe, ne_eq, Nat.reduceEqDiff, not_false_eq_true, true_or, or_true, true_and]) | (refine ⟨fun hb => ?_, ?_⟩ <;> first | (exfalso; omega; done) | exact absurd True.intro hb | ((conv => whnf); try simp only [gO, gWe, ne_eq, Nat.reduceEqDiff, not_false_eq_true, true_or, or_true, true_and])) | fail)
  rw [e]
  exact h
/-- how many vertices of a layer come before an edge's -/
theorem hCn_e {μ : MU} (hG : iG μ) (hL : iL μ) (hN : iN μ) {e y : Int} (e0 : 0 ≤ e) (e1 : e < (μ 1 1)) : ∀ j : Nat, (j : Int) ≤ (μ 15) e - (μ 14) e - 1 → hCn μ y ((μ 22) e + j).toNat = hCn μ y ((μ 22) e).toNat + if (μ 14) e < y ∧ y < (μ 14) e + 1 + j then 1 else 0 := by
  have fb := iN_fb hG hL hN e0 e1
  have G := hG.1
  intro j
  induction j with
  | zero => intro _; rw [if_neg (by omega), show (μ 22) e + ((0 : Nat) : Int) = (μ 22) e by omega, Int.add_zero]
  | succ j ih =>
    intro hj
    have i := ih (by omega)
    have s := hCn_s (μ := μ) (y := y) (v := (μ 22) e + j) (by omega)
    have l := (hN.2.2.2.2.1 e ((μ 14) e + 1 + j) e0 e1 (by omega) (by omega)).2
    rw [show (μ 22) e + ((μ 14) e + 1 + (j : Int)) - (μ 14) e - 1 = (μ 22) e + j by omega] at l
    rw [show (μ 22) e + ((j + 1 : Nat) : Int) = (μ 22) e + j + 1 by omega, s, i, l]
    by_cases c1 : (μ 14) e + 1 + j = y
    · rw [if_neg (by omega), if_pos c1, if_pos (by omega)]; omega
    · rw [if_neg c1]
      by_cases c2 : (μ 14) e < y ∧ y < (μ 14) e + 1 + j
      · rw [if_pos c2, if_pos (by omega)]; omega
      · rw [if_neg c2, if_neg (by omega)]; omega
def hFb (μ : MU) (e : Int) : Int := if e < (μ 1 1) then (μ 22) e else (μ 19 2)
theorem hFb_s {μ : MU} (hG : iG μ) (hL : iL μ) (hN : iN μ) {e : Int} (e0 : 0 ≤ e) (e1 : e < (μ 1 1)) : hFb μ (e + 1) = (μ 22) e + ((μ 15) e - (μ 14) e - 1) := by
  have a := hN.2.2.1 e e0 e1
  have b : hBn μ (e + 1) = hBn μ e + ((μ 15) e - (μ 14) e - 1) := hBn_s e0
  have a' : (μ 22) e = (μ 1 0) + hBn μ e := a
  unfold hFb
  by_cases c : e + 1 < (μ 1 1)
  · have d : (μ 22) (e + 1) = (μ 1 0) + hBn μ (e + 1) := hN.2.2.1 (e + 1) (by omega) c
    rw [if_pos c]; omega
  · have d : (μ 19 2) = (μ 1 0) + hBn μ (μ 1 1) := hN.2.1
    rw [if_neg c, d, show (μ 1 1) = e + 1 by omega]; omega
theorem hFb_0 {μ : MU} (hG : iG μ) (hN : iN μ) : hFb μ 0 = (μ 1 0) := by
  have G := hG.1
  unfold hFb
  by_cases c : 0 < (μ 1 1)
  · rw [if_pos c, hN.2.2.1 0 (by omega) c]
    have : gSum (fun j => (μ 15) j - (μ 14) j - 1) (0 : Int).toNat = 0 := rfl
    omega
  · rw [if_neg c, hN.2.1, show (μ 1 1) = 0 by omega]
    have : gSum (fun j => (μ 15) j - (μ 14) j - 1) (0 : Int).toNat = 0 := rfl
    omega
/-- the model's vertices so far -/
def hPu (ρ τ : MU) (s : GO) (y V : Int) : Prop := gFr [62, 71] ρ τ ∧ hMg ρ τ ∧ τ 62 4 = (ρ 9 1) ∧ τ 62 3 = (ρ 23) y + V ∧ (∀ z : Int, 0 ≤ z → z < y → τ 62 (129 + z) = (ρ 23) z ∧ τ 62 (129 + (z + 1)) = (ρ 23) (z + 1)) ∧ (∀ k : Int, 0 ≤ k → k < (ρ 23) y → τ 62 (169 + k) = (ρ 20) ((clF ρ s y.toNat).1 k)) ∧ ∀ k : Int, (ρ 23) y ≤ k → k < (ρ 23) y + V → τ 62 (169 + k) = (ρ 20) (s.1 k)
theorem hPu_p {ρ τ : MU} {s : GO} {y V a : Int} (hy : 0 ≤ y ∧ y ≤ 34) (hs : 0 ≤ (ρ 23) y) (hV : 0 ≤ V) (h : hPu ρ τ s y V) (ha : (ρ 20) (s.1 ((ρ 23) y + V)) = a) : hPu ρ (gW (gW τ 62 (169 + τ 62 3) a) 62 3 (τ 62 3 + 1)) s y (V + 1) ∧ (∀ k : Int, 129 ≤ k → k < 169 → gW (gW τ 62 (169 + τ 62 3) a) 62 3 (τ 62 3 + 1) 62 k = τ 62 k) := by
  obtain ⟨p1, p2, p3, p4, p5, p6, p7⟩ := h
  have ne : ∀ k : Int, k ≠ 3 → k ≠ 169 + τ 62 3 → gW (gW τ 62 (169 + τ 62 3) a) 62 3 (τ 62 3 + 1) 62 k = τ 62 k := fun k k0 k1 => by
    rw [gWn _ _ _ k0, gWn _ _ _ k1]
  refine ⟨⟨(p1.W (by decide)).W (by decide), fun k hk => by rw [ne k (by omega) (by omega)]; exact p2 k hk, by rw [ne 4 (by omega) (by omega)]; exact p3, by rw [gWe]; omega, fun z z0 z1 => by rw [ne _ (by omega) (by omega), ne _ (by omega) (by omega)]; exact p5 z z0 z1, fun k k0 k1 => by rw [ne _ (by omega) (by omega)]; exact p6 k k0 k1, fun k k0 k1 => ?_⟩, fun k k0 k1 => ne k (by omega) (by omega)⟩
  by_cases c : k = (ρ 23) y + V
  · rw [gWn _ _ _ (show (169 : Int) + k ≠ 3 by omega), show (169 : Int) + k = 169 + τ 62 3 by omega, gWe, c, ha]
  · rw [ne _ (by omega) (by omega)]; exact p7 k k0 (by omega)
theorem hPu.im {ρ τ : MU} {s : GO} {y V : Int} (hM : iM ρ) (h : hPu ρ τ s y V) : hSt ρ τ ∧ iM τ := by
  have st : hSt ρ τ := h.1.st (by decide)
  exact ⟨st, iG_c st hM.1, iL_c st hM.2.1, iGm_g hM.1 st.g h.2.1 hM.2.2.1, iFd_c st (h.1 66 (by decide)) (h.1 67 (by decide)) hM.2.2.2⟩
theorem t_165e {d : Nat} (hd : 11 ≤ d) {ρ : MU} {Q : GQ} {s : GO} {b y : Int} (hMρ : iM ρ) (hNρ : iN ρ) (hNm0 : iNm ρ s.1) (y0 : 0 ≤ y) (y1 : y < (ρ 9 1)) (kk : ∀ τ : MU, hPu ρ τ s y (hCn ρ y (ρ 19 2).toNat) → τ 62 (129 + y) = (ρ 23) y → gG g_T g_F (gCall g_T g_F d) 0 (fun _ => 0) (g_T 165) Q 130 [gR 61, gI b, gI y, gI (ρ 1 1)] [] g_SH τ 0 0) : ∀ e : Int, 0 ≤ e → e ≤ (ρ 1 1) → ∀ τ : MU, hPu ρ τ s y (hCn ρ y (hFb ρ e).toNat) → τ 62 (129 + y) = (ρ 23) y → gG g_T g_F (gCall g_T g_F d) 0 (fun _ => 0) (g_T 165) Q 130 [gR 61, gI b, gI y, gI e] [] g_SH τ 0 0 := by
  have G := hMρ.1.1
  have L := hMρ.2.1.2.2.2.1
  have V := hNρ.1
  have st := (iN_st hMρ.1 hMρ.2.1 hNρ).1 y y0 y1
  have sy := hNρ.2.2.2.2.2.2.2 y y0 y1
  have cvc : hCn ρ y (ρ 19 2).toNat = gSum (fun v => if (ρ 21) v = y then 1 else 0) (ρ 19 2).toNat := rfl
  have z1 := hMρ.2.2.1.1.2
  refine g_up (fun e e0 e1' ihe τ hP hS => ?_) (fun τ hP hS => ?_)
  · obtain ⟨sτ, hMτ⟩ := hP.im hMρ
    have k1 : τ 62 1 = (ρ 1 1) := by rw [hP.2.1 1 (by omega)]; omega
    have E := iE hMρ.1 hMρ.2.1 e0 e1'
    have fbn := iN_fb hMρ.1 hMρ.2.1 hNρ e0 e1'
    have hf0 : hFb ρ e = (ρ 22) e := if_pos e1'
    have eS := hCn_e (y := y) hMρ.1 hMρ.2.1 hNρ e0 e1' ((ρ 15) e - (ρ 14) e - 1).toNat (by omega)
    rw [show (ρ 22) e + ((((ρ 15) e - (ρ 14) e - 1).toNat : Nat) : Int) = hFb ρ (e + 1) by rw [hFb_s hMρ.1 hMρ.2.1 hNρ e0 e1']; omega] at eS
    have cb := hCn_b (μ := ρ) (y := y) ((ρ 22) e).toNat
    have cm := hCn_m (μ := ρ) (y := y) (n := (hFb ρ (e + 1)).toNat) (ρ 19 2).toNat (by rw [hFb_s hMρ.1 hMρ.2.1 hNρ e0 e1']; omega)
    have eu : (τ 11) e = (ρ 11) e := by rw [sτ 11 (by decide) (by decide)]
    have el : (τ 12) e = (ρ 12) e := by rw [sτ 12 (by decide) (by decide)]
    have lu : (τ 67) ((ρ 11) e) = (ρ 14) e := by
      have := hMρ.2.2.2.1 ((ρ 11) e) E.1.1 E.1.2
      rw [hP.1 67 (by decide)]; omega
    have ll : (τ 67) ((ρ 12) e) = (ρ 15) e := by
      have := hMρ.2.2.2.1 ((ρ 12) e) E.2.1.1 E.2.1.2
      rw [hP.1 67 (by decide)]; omega
    have e1τ : e < (τ 1 1) := by rw [sτ 1 (by decide) (by decide)]; exact e1'
    rw [hf0] at hP
    have E1 := E.1
    have E2 := E.2.1
    have E3 := E.2.2.1
    have m3 := hP.2.2.2.1
    clear E kk
    have hNm1 := hNm0
    by_cases c1 : (ρ 14) e < y
    · by_cases c2 : y < (ρ 15) e
      · rw [if_pos (by omega)] at eS
        have nv := hNρ.2.2.2.2.1 e y e0 e1' c1 c2
        have hv := hNm1 ((ρ 22) e + y - (ρ 14) e - 1) (by omega) (by omega)
        have ce := hCn_e (y := y) hMρ.1 hMρ.2.1 hNρ e0 e1' (y - (ρ 14) e - 1).toNat (by omega)
        rw [if_neg (by omega), show (ρ 22) e + (((y - (ρ 14) e - 1).toNat : Nat) : Int) = (ρ 22) e + y - (ρ 14) e - 1 by omega, Int.add_zero] at ce
        rw [nv.2, ce] at hv
        have pp := hPu_p (a := 100 + 40 * e + y) ⟨y0, by omega⟩ st.1 cb.1 hP (by rw [hv]; exact nv.1)
        rw [eS] at ihe
        have nx := ihe _ pp.1 (by rw [pp.2 _ (by omega) (by omega)]; exact hS)
        clear ihe hP pp hS nv hv ce hNm1 hNm0 hMρ hNρ
        refine gB_gG [130] 300 ?_
        (conv => whnf); try simp only [gO, gWe, ne_eq, Nat.reduceEqDiff, not_false_eq_true, true_or, or_true, true_and]
        repeat' (first | exact True.intro | (refine ⟨fun hb => ?_, fun hb => ?_⟩ <;> first | (exfalso; omega; done) | exact absurd True.intro hb | ((conv => whnf); try simp only [gO, gWe, ne_eq, Nat.reduceEqDiff, not_false_eq_true, true_or, or_true, true_and])) | (refine ⟨by omega, ?_⟩; (conv => whnf); try simp only [gO, gWe, ne_eq, Nat.reduceEqDiff, not_false_eq_true, true_or, or_true, true_and]) | (refine ⟨fun hb => ?_, ?_⟩ <;> first | (exfalso; omega; done) | exact absurd True.intro hb | ((conv => whnf); try simp only [gO, gWe, ne_eq, Nat.reduceEqDiff, not_false_eq_true, true_or, or_true, true_and])) | fail)
        refine t_142 (by omega) hMτ e0 e1τ ?_
        rw [eu]
        (conv => whnf); try simp only [gO, gWe, ne_eq, Nat.reduceEqDiff, not_false_eq_true, true_or, or_true, true_and]
        repeat' (first | exact True.intro | (refine ⟨fun hb => ?_, fun hb => ?_⟩ <;> first | (exfalso; omega; done) | exact absurd True.intro hb | ((conv => whnf); try simp only [gO, gWe, ne_eq, Nat.reduceEqDiff, not_false_eq_true, true_or, or_true, true_and])) | (refine ⟨by omega, ?_⟩; (conv => whnf); try simp only [gO, gWe, ne_eq, Nat.reduceEqDiff, not_false_eq_true, true_or, or_true, true_and]) | (refine ⟨fun hb => ?_, ?_⟩ <;> first | (exfalso; omega; done) | exact absurd True.intro hb | ((conv => whnf); try simp only [gO, gWe, ne_eq, Nat.reduceEqDiff, not_false_eq_true, true_or, or_true, true_and])) | fail)
        refine t_143 (by omega) hMτ e0 e1τ ?_
        rw [el]
        (conv => whnf); try simp only [gO, gWe, ne_eq, Nat.reduceEqDiff, not_false_eq_true, true_or, or_true, true_and]
        repeat' (first | exact True.intro | (refine ⟨fun hb => ?_, fun hb => ?_⟩ <;> first | (exfalso; omega; done) | exact absurd True.intro hb | ((conv => whnf); try simp only [gO, gWe, ne_eq, Nat.reduceEqDiff, not_false_eq_true, true_or, or_true, true_and])) | (refine ⟨by omega, ?_⟩; (conv => whnf); try simp only [gO, gWe, ne_eq, Nat.reduceEqDiff, not_false_eq_true, true_or, or_true, true_and]) | (refine ⟨fun hb => ?_, ?_⟩ <;> first | (exfalso; omega; done) | exact absurd True.intro hb | ((conv => whnf); try simp only [gO, gWe, ne_eq, Nat.reduceEqDiff, not_false_eq_true, true_or, or_true, true_and])) | fail)
        refine t_156 (by omega) (by omega) (by omega) ?_
        (conv => whnf); try simp only [gO, gWe, ne_eq, Nat.reduceEqDiff, not_false_eq_true, true_or, or_true, true_and]
        repeat' (first | exact True.intro | (refine ⟨fun hb => ?_, fun hb => ?_⟩ <;> first | (exfalso; omega; done) | exact absurd True.intro hb | ((conv => whnf); try simp only [gO, gWe, ne_eq, Nat.reduceEqDiff, not_false_eq_true, true_or, or_true, true_and])) | (refine ⟨by omega, ?_⟩; (conv => whnf); try simp only [gO, gWe, ne_eq, Nat.reduceEqDiff, not_false_eq_true, true_or, or_true, true_and]) | (refine ⟨fun hb => ?_, ?_⟩ <;> first | (exfalso; omega; done) | exact absurd True.intro hb | ((conv => whnf); try simp only [gO, gWe, ne_eq, Nat.reduceEqDiff, not_false_eq_true, true_or, or_true, true_and])) | fail)
        refine t_164 (by omega) (by omega) ?_
        (conv => whnf); try simp only [gO, gWe, ne_eq, Nat.reduceEqDiff, not_false_eq_true, true_or, or_true, true_and]
        repeat' (first | exact True.intro | (refine ⟨fun hb => ?_, fun hb => ?_⟩ <;> first | (exfalso; omega; done) | exact absurd True.intro hb | ((conv => whnf); try simp only [gO, gWe, ne_eq, Nat.reduceEqDiff, not_false_eq_true, true_or, or_true, true_and])) | (refine ⟨by omega, ?_⟩; (conv => whnf); try simp only [gO, gWe, ne_eq, Nat.reduceEqDiff, not_false_eq_true, true_or, or_true, true_and]) | (refine ⟨fun hb => ?_, ?_⟩ <;> first | (exfalso; omega; done) | exact absurd True.intro hb | ((conv => whnf); try simp only [gO, gWe, ne_eq, Nat.reduceEqDiff, not_false_eq_true, true_or, or_true, true_and])) | fail)
        exact nx
      · rw [if_neg (by omega), Int.add_zero] at eS
        rw [eS] at ihe
        have nx := ihe τ hP hS
        clear ihe hP hS hNm1 hNm0 hMρ hNρ
        refine gB_gG [130] 300 ?_
        (conv => whnf); try simp only [gO, gWe, ne_eq, Nat.reduceEqDiff, not_false_eq_true, true_or, or_true, true_and]
        repeat' (first | exact True.intro | (refine ⟨fun hb => ?_, fun hb => ?_⟩ <;> first | (exfalso; omega; done) | exact absurd True.intro hb | ((conv => whnf); try simp only [gO, gWe, ne_eq, Nat.reduceEqDiff, not_false_eq_true, true_or, or_true, true_and])) | (refine ⟨by omega, ?_⟩; (conv => whnf); try simp only [gO, gWe, ne_eq, Nat.reduceEqDiff, not_false_eq_true, true_or, or_true, true_and]) | (refine ⟨fun hb => ?_, ?_⟩ <;> first | (exfalso; omega; done) | exact absurd True.intro hb | ((conv => whnf); try simp only [gO, gWe, ne_eq, Nat.reduceEqDiff, not_false_eq_true, true_or, or_true, true_and])) | fail)
        refine t_142 (by omega) hMτ e0 e1τ ?_
        rw [eu]
        (conv => whnf); try simp only [gO, gWe, ne_eq, Nat.reduceEqDiff, not_false_eq_true, true_or, or_true, true_and]
        repeat' (first | exact True.intro | (refine ⟨fun hb => ?_, fun hb => ?_⟩ <;> first | (exfalso; omega; done) | exact absurd True.intro hb | ((conv => whnf); try simp only [gO, gWe, ne_eq, Nat.reduceEqDiff, not_false_eq_true, true_or, or_true, true_and])) | (refine ⟨by omega, ?_⟩; (conv => whnf); try simp only [gO, gWe, ne_eq, Nat.reduceEqDiff, not_false_eq_true, true_or, or_true, true_and]) | (refine ⟨fun hb => ?_, ?_⟩ <;> first | (exfalso; omega; done) | exact absurd True.intro hb | ((conv => whnf); try simp only [gO, gWe, ne_eq, Nat.reduceEqDiff, not_false_eq_true, true_or, or_true, true_and])) | fail)
        refine t_143 (by omega) hMτ e0 e1τ ?_
        rw [el]
        (conv => whnf); try simp only [gO, gWe, ne_eq, Nat.reduceEqDiff, not_false_eq_true, true_or, or_true, true_and]
        repeat' (first | exact True.intro | (refine ⟨fun hb => ?_, fun hb => ?_⟩ <;> first | (exfalso; omega; done) | exact absurd True.intro hb | ((conv => whnf); try simp only [gO, gWe, ne_eq, Nat.reduceEqDiff, not_false_eq_true, true_or, or_true, true_and])) | (refine ⟨by omega, ?_⟩; (conv => whnf); try simp only [gO, gWe, ne_eq, Nat.reduceEqDiff, not_false_eq_true, true_or, or_true, true_and]) | (refine ⟨fun hb => ?_, ?_⟩ <;> first | (exfalso; omega; done) | exact absurd True.intro hb | ((conv => whnf); try simp only [gO, gWe, ne_eq, Nat.reduceEqDiff, not_false_eq_true, true_or, or_true, true_and])) | fail)
        exact nx
    · rw [if_neg (by omega), Int.add_zero] at eS
      rw [eS] at ihe
      have nx := ihe τ hP hS
      clear ihe hP hS hNm1 hNm0 hMρ hNρ
      refine gB_gG [130] 300 ?_
      (conv => whnf); try simp only [gO, gWe, ne_eq, Nat.reduceEqDiff, not_false_eq_true, true_or, or_true, true_and]
      repeat' (first | exact True.intro | (refine ⟨fun hb => ?_, fun hb => ?_⟩ <;> first | (exfalso; omega; done) | exact absurd True.intro hb | ((conv => whnf); try simp only [gO, gWe, ne_eq, Nat.reduceEqDiff, not_false_eq_true, true_or, or_true, true_and])) | (refine ⟨by omega, ?_⟩; (conv => whnf); try simp only [gO, gWe, ne_eq, Nat.reduceEqDiff, not_false_eq_true, true_or, or_true, true_and]) | (refine ⟨fun hb => ?_, ?_⟩ <;> first | (exfalso; omega; done) | exact absurd True.intro hb | ((conv => whnf); try simp only [gO, gWe, ne_eq, Nat.reduceEqDiff, not_false_eq_true, true_or, or_true, true_and])) | fail)
      refine t_142 (by omega) hMτ e0 e1τ ?_
      rw [eu]
      (conv => whnf); try simp only [gO, gWe, ne_eq, Nat.reduceEqDiff, not_false_eq_true, true_or, or_true, true_and]
      repeat' (first | exact True.intro | (refine ⟨fun hb => ?_, fun hb => ?_⟩ <;> first | (exfalso; omega; done) | exact absurd True.intro hb | ((conv => whnf); try simp only [gO, gWe, ne_eq, Nat.reduceEqDiff, not_false_eq_true, true_or, or_true, true_and])) | (refine ⟨by omega, ?_⟩; (conv => whnf); try simp only [gO, gWe, ne_eq, Nat.reduceEqDiff, not_false_eq_true, true_or, or_true, true_and]) | (refine ⟨fun hb => ?_, ?_⟩ <;> first | (exfalso; omega; done) | exact absurd True.intro hb | ((conv => whnf); try simp only [gO, gWe, ne_eq, Nat.reduceEqDiff, not_false_eq_true, true_or, or_true, true_and])) | fail)
      exact nx
  · have hf0 : hFb ρ (ρ 1 1) = (ρ 19 2) := if_neg (by omega)
    rw [hf0] at hP
    exact kk τ hP hS
theorem t_165c {d : Nat} (hd : 11 ≤ d) {ρ : MU} {Q : GQ} {s : GO} {b y : Int} (hMρ : iM ρ) (hNρ : iN ρ) (hNmρ : iNm ρ s.1) (y0 : 0 ≤ y) (y1 : y < (ρ 9 1)) (kk : ∀ ω : MU, hPu ρ ω s (y + 1) 0 → gG g_T g_F (gCall g_T g_F d) 0 (fun _ => 0) (g_T 165) Q 69 [gR 61, gI b, gI (y + 1), gI (ρ 1 1)] [] g_SH ω 0 0) {τ : MU} (hP : hPu ρ τ s y (hCn ρ y (ρ 19 2).toNat)) (hS : τ 62 (129 + y) = (ρ 23) y) : gG g_T g_F (gCall g_T g_F d) 0 (fun _ => 0) (g_T 165) Q 130 [gR 61, gI b, gI y, gI (ρ 1 1)] [] g_SH τ 0 0 := by
  have G := hMρ.1.1
  have L := hMρ.2.1.2.2.2.1
  have V := hNρ.1
  have st := (iN_st hMρ.1 hMρ.2.1 hNρ).1 y y0 y1
  have sy := hNρ.2.2.2.2.2.2.2 y y0 y1
  have cvc : hCn ρ y (ρ 19 2).toNat = gSum (fun v => if (ρ 21) v = y then 1 else 0) (ρ 19 2).toNat := rfl
  have z1 := hMρ.2.2.1.1.2
  rw [cvc] at hP
  obtain ⟨p1, p2, p3, p4, p5, p6, p7⟩ := hP
  obtain ⟨pl, C1, C2, C3, C4⟩ := clF_ok hMρ.1 hMρ.2.1 hNρ hNmρ y.toNat (by omega)
  have k1 : τ 62 1 = (ρ 1 1) := by rw [p2 1 (by omega)]; omega
  have cn : clF ρ s (y + 1).toNat = clo2 ρ y (clF ρ s y.toNat) := by
    rw [show (y + 1).toNat = y.toNat + 1 by omega]
    show clo2 ρ ((y.toNat : Nat) : Int) _ = _
    rw [show ((y.toNat : Nat) : Int) = y by omega]
  have sτ : hSt ρ (gW τ 62 (129 + (y + 1)) (τ 62 3)) := (p1.W (by decide)).st (by decide)
  have q2 : hMg ρ (gW τ 62 (129 + (y + 1)) (τ 62 3)) := fun k hk => by rw [gWn _ _ _ (by omega)]; exact p2 k hk
  have hMτ : iM (gW τ 62 (129 + (y + 1)) (τ 62 3)) := ⟨iG_c sτ hMρ.1, iL_c sτ hMρ.2.1, iGm_g hMρ.1 sτ.g q2 hMρ.2.2.1, iFd_c sτ (p1 66 (by decide)) (p1 67 (by decide)) hMρ.2.2.2⟩
  have f23 : (gW τ 62 (129 + (y + 1)) (τ 62 3)) 23 = (ρ 23) := sτ 23 (by decide) (by decide)
  have f20 : (gW τ 62 (129 + (y + 1)) (τ 62 3)) 20 = (ρ 20) := sτ 20 (by decide) (by decide)
  have nx : ∀ Q' : GQ, (∀ ω : MU, gFr [62, 71] ρ ω → hPu ρ ω s (y + 1) 0 → Q' none g_SH ω) → gCall g_T g_F d 166 [gR 61, gI y] g_SH (gW τ 62 (129 + (y + 1)) (τ 62 3)) Q' := fun Q' kk => by
    refine t_166 (by omega) (sq := (clF ρ s y.toNat).1) (pl := pl) hMτ (iN_c sτ hNρ) (iO_c sτ C1) y0 (by rw [sτ 9 (by decide) (by decide)]; exact y1) ?_ ?_ (fun k k0 k1 => ?_) (fun ω hω w1 w2 => ?_)
    · rw [gWn _ _ _ (show (129 : Int) + y ≠ 129 + (y + 1) by omega), f23]; exact hS
    · rw [gWe, f23]; omega
    · rw [f23] at k0 k1
      rw [gWn _ _ _ (show (169 : Int) + k ≠ 129 + (y + 1) by omega), f20, p7 k k0 (by omega), C4 k (by rw [show ((y.toNat : Nat) : Int) = y by omega]; exact k0) (by omega)]
    · rw [f23] at w1 w2
      rw [f20] at w2
      have c3 : cloS (gW τ 62 (129 + (y + 1)) (τ 62 3)) = cloS ρ := by
        funext sq z
        unfold cloS
        rw [hClo_c sτ, f23]
      rw [c3] at w2
      have fω : gFr [62, 71] ρ ω := (p1.W (by decide)).tr hω
      have out : ∀ k : Int, ¬ (169 + (ρ 23) y ≤ k ∧ k < 169 + (ρ 23) (y + 1)) → k ≠ 129 + (y + 1) → ω 62 k = τ 62 k := fun k hk hk2 => by rw [w1 k hk, gWn _ _ _ hk2]
      refine kk ω fω ⟨fω, fun k hk => by rw [out k (by omega) (by omega)]; exact p2 k hk, by rw [out 4 (by omega) (by omega)]; exact p3, by rw [out 3 (by omega) (by omega)]; omega, fun z z0 z1 => ?_, fun k k0 k1 => ?_, fun k k0 k1 => by omega⟩
      · by_cases c : z = y
        · rw [c, out _ (by omega) (by omega), w1 _ (by omega), gWe]
          exact ⟨hS, by omega⟩
        · rw [out _ (by omega) (by omega), out _ (by omega) (by omega)]
          exact p5 z z0 (by omega)
      · rw [cn]
        show ω 62 (169 + k) = (ρ 20) (cloS ρ (clF ρ s y.toNat).1 y k)
        by_cases c : (ρ 23) y ≤ k
        · exact w2 k c k1
        · rw [out _ (by omega) (by omega), p6 k k0 (by omega)]
          unfold cloS
          rw [if_neg (by omega)]
  rw [← Int.add_assoc] at nx
  clear p5 p6 p7 C1 C2 C3 C4 hS
  refine gB_gG [130,69] 300 ?_
  (conv => whnf); try simp only [gO, gWe, ne_eq, Nat.reduceEqDiff, not_false_eq_true, true_or, or_true, true_and]
  repeat' (first | exact True.intro | (refine ⟨fun hb => ?_, fun hb => ?_⟩ <;> first | (exfalso; omega; done) | exact absurd True.intro hb | ((conv => whnf); try simp only [gO, gWe, ne_eq, Nat.reduceEqDiff, not_false_eq_true, true_or, or_true, true_and])) | (refine ⟨by omega, ?_⟩; (conv => whnf); try simp only [gO, gWe, ne_eq, Nat.reduceEqDiff, not_false_eq_true, true_or, or_true, true_and]) | (refine ⟨fun hb => ?_, ?_⟩ <;> first | (exfalso; omega; done) | exact absurd True.intro hb | ((conv => whnf); try simp only [gO, gWe, ne_eq, Nat.reduceEqDiff, not_false_eq_true, true_or, or_true, true_and])) | fail)
  refine nx _ (fun ω hω hPω => ?_)
  have j := kk ω hPω
  (conv => whnf); try simp only [gO, gWe, ne_eq, Nat.reduceEqDiff, not_false_eq_true, true_or, or_true, true_and]
  repeat' (first | exact True.intro | (refine ⟨fun hb => ?_, fun hb => ?_⟩ <;> first | (exfalso; omega; done) | exact absurd True.intro hb | ((conv => whnf); try simp only [gO, gWe, ne_eq, Nat.reduceEqDiff, not_false_eq_true, true_or, or_true, true_and])) | (refine ⟨by omega, ?_⟩; (conv => whnf); try simp only [gO, gWe, ne_eq, Nat.reduceEqDiff, not_false_eq_true, true_or, or_true, true_and]) | (refine ⟨fun hb => ?_, ?_⟩ <;> first | (exfalso; omega; done) | exact absurd True.intro hb | ((conv => whnf); try simp only [gO, gWe, ne_eq, Nat.reduceEqDiff, not_false_eq_true, true_or, or_true, true_and])) | fail)
  exact j
theorem t_165n {d : Nat} (hd : 11 ≤ d) {ρ : MU} {Q : GQ} {s : GO} {b y : Int} (hMρ : iM ρ) (hNρ : iN ρ) (hNmρ : iNm ρ s.1) (y0 : 0 ≤ y) (y1 : y < (ρ 9 1)) (kk : ∀ τ : MU, hPu ρ τ s y (hCn ρ y (hFb ρ 0).toNat) → τ 62 (129 + y) = (ρ 23) y → gG g_T g_F (gCall g_T g_F d) 0 (fun _ => 0) (g_T 165) Q 130 [gR 61, gI b, gI y, gI 0] [] g_SH τ 0 0) : ∀ i : Int, 0 ≤ i → i ≤ (ρ 1 0) → ∀ τ : MU, hPu ρ τ s y (hCn ρ y i.toNat) → τ 62 (129 + y) = (ρ 23) y → gG g_T g_F (gCall g_T g_F d) 0 (fun _ => 0) (g_T 165) Q 97 [gR 61, gI b, gI y, gI i] [] g_SH τ 0 0 := by
  have G := hMρ.1.1
  have L := hMρ.2.1.2.2.2.1
  have V := hNρ.1
  have st := (iN_st hMρ.1 hMρ.2.1 hNρ).1 y y0 y1
  have sy := hNρ.2.2.2.2.2.2.2 y y0 y1
  have cvc : hCn ρ y (ρ 19 2).toNat = gSum (fun v => if (ρ 21) v = y then 1 else 0) (ρ 19 2).toNat := rfl
  have z0 := hMρ.2.2.1.1.1
  refine g_up (fun i i0 i1 ihi τ hP hS => ?_) (fun τ hP hS => ?_)
  · have k0 : τ 62 0 = (ρ 1 0) := by rw [hP.2.1 0 (by omega)]; omega
    have lay := hMρ.2.2.2.1 i i0 i1
    have k67 : (τ 67) i = (ρ 13) i := by rw [hP.1 67 (by decide)]; exact lay
    have nl := hNρ.2.2.2.1 i i0 i1
    have cs := hCn_s (μ := ρ) (y := y) i0
    have cb := hCn_b (μ := ρ) (y := y) i.toNat
    have cm := hCn_m (μ := ρ) (y := y) (n := (i + 1).toNat) (ρ 19 2).toNat (by omega)
    have m3 := hP.2.2.2.1
    by_cases c : (ρ 13) i = y
    · rw [if_pos (by omega)] at cs
      have hv := hNmρ i i0 (by omega)
      rw [show (ρ 21) i = y by omega] at hv
      have pp := hPu_p (a := i) ⟨y0, by omega⟩ st.1 cb.1 hP (by rw [hv]; exact nl.1)
      rw [cs] at ihi
      have nx := ihi _ pp.1 (by rw [pp.2 _ (by omega) (by omega)]; exact hS)
      clear ihi hP pp hS kk
      refine gB_gG [97] 300 ?_
      (conv => whnf); try simp only [gO, gWe, ne_eq, Nat.reduceEqDiff, not_false_eq_true, true_or, or_true, true_and]
      repeat' (first | exact True.intro | (refine ⟨fun hb => ?_, fun hb => ?_⟩ <;> first | (exfalso; omega; done) | exact absurd True.intro hb | ((conv => whnf); try simp only [gO, gWe, ne_eq, Nat.reduceEqDiff, not_false_eq_true, true_or, or_true, true_and])) | (refine ⟨by omega, ?_⟩; (conv => whnf); try simp only [gO, gWe, ne_eq, Nat.reduceEqDiff, not_false_eq_true, true_or, or_true, true_and]) | (refine ⟨fun hb => ?_, ?_⟩ <;> first | (exfalso; omega; done) | exact absurd True.intro hb | ((conv => whnf); try simp only [gO, gWe, ne_eq, Nat.reduceEqDiff, not_false_eq_true, true_or, or_true, true_and])) | fail)
      refine t_164 (by omega) (by omega) ?_
      (conv => whnf); try simp only [gO, gWe, ne_eq, Nat.reduceEqDiff, not_false_eq_true, true_or, or_true, true_and]
      repeat' (first | exact True.intro | (refine ⟨fun hb => ?_, fun hb => ?_⟩ <;> first | (exfalso; omega; done) | exact absurd True.intro hb | ((conv => whnf); try simp only [gO, gWe, ne_eq, Nat.reduceEqDiff, not_false_eq_true, true_or, or_true, true_and])) | (refine ⟨by omega, ?_⟩; (conv => whnf); try simp only [gO, gWe, ne_eq, Nat.reduceEqDiff, not_false_eq_true, true_or, or_true, true_and]) | (refine ⟨fun hb => ?_, ?_⟩ <;> first | (exfalso; omega; done) | exact absurd True.intro hb | ((conv => whnf); try simp only [gO, gWe, ne_eq, Nat.reduceEqDiff, not_false_eq_true, true_or, or_true, true_and])) | fail)
      exact nx
    · rw [if_neg (by omega), Int.add_zero] at cs
      rw [cs] at ihi
      have nx := ihi τ hP hS
      clear ihi hP hS kk
      refine gB_gG [97] 300 ?_
      (conv => whnf); try simp only [gO, gWe, ne_eq, Nat.reduceEqDiff, not_false_eq_true, true_or, or_true, true_and]
      repeat' (first | exact True.intro | (refine ⟨fun hb => ?_, fun hb => ?_⟩ <;> first | (exfalso; omega; done) | exact absurd True.intro hb | ((conv => whnf); try simp only [gO, gWe, ne_eq, Nat.reduceEqDiff, not_false_eq_true, true_or, or_true, true_and])) | (refine ⟨by omega, ?_⟩; (conv => whnf); try simp only [gO, gWe, ne_eq, Nat.reduceEqDiff, not_false_eq_true, true_or, or_true, true_and]) | (refine ⟨fun hb => ?_, ?_⟩ <;> first | (exfalso; omega; done) | exact absurd True.intro hb | ((conv => whnf); try simp only [gO, gWe, ne_eq, Nat.reduceEqDiff, not_false_eq_true, true_or, or_true, true_and])) | fail)
      exact nx
  · have k0 : τ 62 0 = (ρ 1 0) := by rw [hP.2.1 0 (by omega)]; omega
    rw [← hFb_0 hMρ.1 hNρ] at hP
    have nx := kk τ hP hS
    clear hP hS kk
    refine gB_gG [97,130] 300 ?_
    (conv => whnf); try simp only [gO, gWe, ne_eq, Nat.reduceEqDiff, not_false_eq_true, true_or, or_true, true_and]
    repeat' (first | exact True.intro | (refine ⟨fun hb => ?_, fun hb => ?_⟩ <;> first | (exfalso; omega; done) | exact absurd True.intro hb | ((conv => whnf); try simp only [gO, gWe, ne_eq, Nat.reduceEqDiff, not_false_eq_true, true_or, or_true, true_and])) | (refine ⟨by omega, ?_⟩; (conv => whnf); try simp only [gO, gWe, ne_eq, Nat.reduceEqDiff, not_false_eq_true, true_or, or_true, true_and]) | (refine ⟨fun hb => ?_, ?_⟩ <;> first | (exfalso; omega; done) | exact absurd True.intro hb | ((conv => whnf); try simp only [gO, gWe, ne_eq, Nat.reduceEqDiff, not_false_eq_true, true_or, or_true, true_and])) | fail)
    exact nx
