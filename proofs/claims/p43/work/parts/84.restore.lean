variable {sN : Int} {sX : Int → Int}
/-! the case restore -/
theorem hGr_c {ν τ ρ : MU} (h : ∀ c : Nat, 1 ≤ c → c ≤ 8 → τ c = ν c) (x : hGr ν ρ) : hGr τ ρ := by
  unfold hGr at *
  rw [h 1 (by decide) (by decide), h 2 (by decide) (by decide), h 3 (by decide) (by decide), h 4 (by decide) (by decide), h 5 (by decide) (by decide), h 6 (by decide) (by decide), h 7 (by decide) (by decide), h 8 (by decide) (by decide)]
  exact x
theorem hGr_G {ν ρ : MU} (h : hGr ν ρ) (hG : iG ρ) : iG ν := by
  obtain ⟨⟨n, m⟩, h1, h2⟩ := h
  refine ⟨by rw [n, m]; exact hG.1, fun i i0 i1 => ?_, fun e e0 e1 => ?_⟩
  · have a := h1 i i0 (by omega)
    rw [a.1, a.2]; exact hG.2.1 i i0 (by omega)
  · have a := h2 e e0 (by omega)
    rw [a.1, a.2.1, a.2.2.1, a.2.2.2.1, a.2.2.2.2, n]; exact hG.2.2 e e0 (by omega)
theorem hIO {ν ρ : MU} {sq sq' pl : Int → Int} (hG : iG ρ) (hL : iL ρ) (hg : hGr ν ρ) (hl : hLy ν ρ) (hv : (ν 19 2) = (ρ 19 2) ∧ (∀ v : Int, 0 ≤ v → v < (ρ 19 2) → (ν 20) v = (ρ 20) v ∧ (ν 21) v = (ρ 21) v) ∧ ∀ y : Int, 0 ≤ y → y ≤ (ρ 9 1) → (ν 23) y = (ρ 23) y) (hN : iN ρ) (hO : iO ρ sq pl) (hs : ∀ k : Int, 0 ≤ k → k < (ρ 19 2) → sq' k = sq k) : iO ν sq' pl := by
  obtain ⟨v1, v2, v3⟩ := hv
  refine ⟨fun y y0 y1 k k0 k1 => ?_, fun v q0 q1 => ?_⟩
  · rw [hl.1] at y1
    have st := (iN_st hG hL hN).1 y y0 y1
    rw [v3 y y0 (by omega)] at k0 ⊢
    rw [v3 (y + 1) (by omega) (by omega)] at k1
    have o := hO.1 y y0 y1 k k0 k1
    rw [hs k (by omega) (by omega), v1, (v2 _ o.1.1 o.1.2).2]
    exact o
  · rw [v1] at q1
    have l := iN_lay hG hL hN q0 q1
    have o := iO_v hG hL hN hO q0 q1
    have o1 := o.2.1
    have o2 := o.2.2.1
    rw [(v2 v q0 q1).2, v3 _ l.1 (by omega), v3 _ (by omega) (by omega), hs _ (by omega) (by omega)]
    exact hO.2 v q0 q1
