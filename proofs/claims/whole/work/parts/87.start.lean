/-! the law's start: both objects are made -/
theorem gCd {T F} (n : Nat) (cut : List Nat) {D j : Nat} {as : List GV} {sh : SH} {μ : MU} {Q : GQ} (hD : 1 ≤ D) (hb : (!(T j).2.2.2.2.2.2 && Nat.ble (gArgs as).length (T j).2.2.1) = true) (h : gB T F (gCall T F (D - 1)) 0 (fun _ => 0) (T j) Q cut n 0 (gIn (T j).2.2.1 as) [] sh μ (T j).2.2.2.2.1 (T j).2.2.2.2.2.1) : gCall T F D j as sh μ Q := by
  obtain ⟨d, rfl⟩ := gD hD
  exact gC n cut hb h
