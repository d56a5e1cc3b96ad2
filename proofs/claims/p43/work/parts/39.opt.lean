variable {sN : Int} {sX : Int → Int}
/-! the value of a flow, the lowest of the best layers, their bound -/
def hBal (m : Int) (up lo fl : Int → Int) : Prop := ∀ q : Int → Int, gSum (fun e => fl e * (q (lo e) - q (up e))) m.toNat = gTot m up lo q
def hVal (m : Int) (ls fl : Int → Int) : Int := gSum (fun e => fl e * ls e) m.toNat
theorem hVal_le {m : Int} {up lo ls fl q : Int → Int} (h0 : ∀ e : Int, 0 ≤ e → e < m → 0 ≤ fl e) (hb : hBal m up lo fl) (hq : ∀ e : Int, 0 ≤ e → e < m → q (up e) + ls e ≤ q (lo e)) : hVal m ls fl ≤ gTot m up lo q := by
  rw [← hb q]
  refine gSum_l _ (fun e e0 e1 => ?_)
  have a := hq e e0 (by omega)
  exact Int.mul_le_mul_of_nonneg_left (by omega) (h0 e e0 (by omega))
theorem hOpt {n m : Int} {up lo ls fl l : Int → Int} (h0 : ∀ e : Int, 0 ≤ e → e < m → 0 ≤ fl e) (hb : hBal m up lo fl) (hA : gArc m up lo ls fl l) (hl : ∀ i : Int, 0 ≤ i → i < n → 0 ≤ l i) (hF : pF n m up lo ls fl l) : gLow n m up lo ls l := by
  have hv : gTot m up lo l = hVal m ls fl := by
    rw [← hb l]
    refine gSum_c _ (fun e e0 e1 => ?_)
    have a := hA e e0 (by omega)
    by_cases hc : fl e = 0
    · show fl e * _ = fl e * _
      rw [hc, Int.zero_mul, Int.zero_mul]
    · have := a.2 (by have := h0 e e0 (by omega); omega)
      show fl e * (l (lo e) - l (up e)) = fl e * ls e
      rw [show l (lo e) - l (up e) = ls e by omega]
  refine ⟨⟨hl, fun e e0 e1 => (hA e e0 e1).1⟩, fun q hq => by rw [hv]; exact hVal_le h0 hb hq.2, fun q hq ht i i0 i1 => hF q hq.1 (fun e e0 e1 => ⟨hq.2 e e0 e1, fun hp => ?_⟩) i i0 i1⟩
  by_cases hc : q (lo e) ≤ q (up e) + ls e
  · exact hc
  · exfalso
    have := gSum_lx (f := fun e => fl e * ls e) (g := fun e => fl e * (q (lo e) - q (up e))) (a := e) (w := 1) m.toNat (fun e e0 e1 => by
      have a := hq.2 e e0 (by omega)
      exact Int.mul_le_mul_of_nonneg_left (by omega) (h0 e e0 (by omega))) e0 (by omega) (by
      show fl e * ls e + 1 ≤ fl e * (q (lo e) - q (up e))
      have b : fl e * (ls e + 1) ≤ fl e * (q (lo e) - q (up e)) := Int.mul_le_mul_of_nonneg_left (by omega) (h0 e e0 e1)
      rw [Int.mul_add, Int.mul_one] at b
      omega)
    rw [hb q] at this
    rw [hv] at ht
    unfold hVal at ht
    omega
theorem hMov {m : Int} {up lo ls fl q : Int → Int} {e v : Int} (e0 : 0 ≤ e) (e1 : e < m) : gSum (fun i => gUp fl e (fl e + v) i * (q (lo i) - q (up i))) m.toNat = gSum (fun i => fl i * (q (lo i) - q (up i))) m.toNat + v * (q (lo e) - q (up e)) ∧ hVal m ls (gUp fl e (fl e + v)) = hVal m ls fl + v * ls e := by
  unfold hVal
  rw [gSum_u (f := fun i => gUp fl e (fl e + v) i * (q (lo i) - q (up i))) (g := fun i => fl i * (q (lo i) - q (up i))) e0 (fun i hi => by
    show gUp fl e (fl e + v) i * _ = _
    rw [gUp_n hi]) _ (by omega), gSum_u (f := fun i => gUp fl e (fl e + v) i * ls i) (g := fun i => fl i * ls i) e0 (fun i hi => by
    show gUp fl e (fl e + v) i * _ = _
    rw [gUp_n hi]) _ (by omega)]
  show _ - _ + gUp fl e (fl e + v) e * _ = _ ∧ _ - _ + gUp fl e (fl e + v) e * _ = _
  rw [gUp_e, Int.add_mul, Int.add_mul]
  constructor <;> omega
/-- on the way round the circle: the flow -/
def mInv (m : Int) (up lo ls fl pb : Int → Int) (a A : Int) (s : Nat) (g : Int → Int) : Prop := (∀ q : Int → Int, gSum (fun e => g e * (q (lo e) - q (up e))) m.toNat = gTot m up lo q + A * (q a - q (gIt (pU up lo pb) s a))) ∧
  hVal m ls g = hVal m ls fl + A * cSum (pW lo ls pb) (pU up lo pb) a s ∧
  ∀ e : Int, 0 ≤ e → e < m → (0 ≤ g e ∧ g e ≤ 660 + 660 * (s : Int)) ∧ ((∀ r : Nat, r < s → gIt (pU up lo pb) r a ≠ up e) → fl e ≤ g e)
theorem mInv_0 {m : Int} {up lo ls fl pb : Int → Int} {a A : Int} (h0 : ∀ e : Int, 0 ≤ e → e < m → 0 ≤ fl e ∧ fl e ≤ 660) (hb : hBal m up lo fl) : mInv m up lo ls fl pb a A 0 fl := by
  refine ⟨fun q => ?_, ?_, fun e e0 e1 => ?_⟩
  · rw [hb q]
    show _ = _ + A * (q a - q a)
    rw [Int.sub_self, Int.mul_zero]; omega
  · show _ = _ + A * 0
    rw [Int.mul_zero]; omega
  · have := h0 e e0 e1
    exact ⟨by omega, fun _ => Int.le_refl _⟩
theorem mInv_s {n m : Int} {up lo ls fl pb g : Int → Int} {a A : Int} {p s : Nat} (hE : uE n m up lo ls) (hC : pCyc n m up lo ls fl pb a p) (A0 : 1 ≤ A) (A1 : A ≤ 660) (hA : ∀ r : Nat, r < p → up (pb (gIt (pU up lo pb) r a)) = gIt (pU up lo pb) r a → A ≤ fl (pb (gIt (pU up lo pb) r a))) (sp : s < p) (h : mInv m up lo ls fl pb a A s g) :
    mInv m up lo ls fl pb a A (s + 1) (gUp g (pb (gIt (pU up lo pb) s a)) (g (pb (gIt (pU up lo pb) s a)) + (if up (pb (gIt (pU up lo pb) s a)) = gIt (pU up lo pb) s a then -A else A))) := by
  obtain ⟨h1, h2, h3⟩ := h
  have c := (hC.2.2.2.1 s).2 sp
  have e := hE _ c.1.1 c.1.2
  have hd : ∀ r : Nat, r < s → gIt (pU up lo pb) r a ≠ gIt (pU up lo pb) s a := fun r hr => pCyc_d hC hr sp
  have As := hA s sp
  have up1 : gIt (pU up lo pb) (s + 1) a = pU up lo pb (gIt (pU up lo pb) s a) := rfl
  have cs : cSum (pW lo ls pb) (pU up lo pb) a (s + 1) = cSum (pW lo ls pb) (pU up lo pb) a s + pW lo ls pb (gIt (pU up lo pb) s a) := rfl
  unfold mInv
  rw [up1, cs]
  generalize hx : gIt (pU up lo pb) s a = x at *
  generalize hd0 : pb x = d at *
  have both : ∀ q : Int → Int, (if up d = x then -A else A) * (q (lo d) - q (up d)) = A * (q x - q (pU up lo pb x)) ∧ (if up d = x then -A else A) * ls d = A * pW lo ls pb x := by
    intro q
    unfold pU pW
    rw [hd0]
    rcases c.2 with z | ⟨z1, z2, z3⟩
    · rw [if_neg (by omega), if_pos z, if_pos z, z]
      exact ⟨rfl, rfl⟩
    · rw [if_pos z1, if_neg z2, if_neg z2, z1]
      rw [Int.neg_mul, Int.neg_mul, ← Int.mul_neg, ← Int.mul_neg]
      exact ⟨by rw [show -(q (lo d) - q x) = q x - q (lo d) by omega], rfl⟩
  refine ⟨fun q => ?_, ?_, fun e' e0 e1 => ?_⟩
  · rw [(hMov (ls := ls) (q := q) c.1.1 c.1.2).1, h1 q, (both q).1, ← hx, Int.mul_sub, Int.mul_sub, Int.mul_sub]
    rw [hx]; omega
  · rw [(hMov (up := up) (lo := lo) (q := fun _ => 0) c.1.1 c.1.2).2, h2, (both (fun _ => 0)).2, Int.mul_add]
    omega
  · have i := h3 e' e0 e1
    have c0 := h3 _ c.1.1 c.1.2
    by_cases hc : e' = d
    · rw [hc, gUp_e]
      by_cases hu : up d = x
      · rw [if_pos hu]
        have b := c0.2 (fun r hr => by rw [hu]; exact hd r hr)
        have := As hu
        refine ⟨by omega, fun h => ?_⟩
        exact absurd (by rw [hx, hu]) (h s (by omega))
      · rw [if_neg hu]
        refine ⟨by omega, fun h => ?_⟩
        have := c0.2 (fun r hr => h r (by omega))
        omega
    · rw [gUp_n hc]
      exact ⟨by omega, fun h => i.2 (fun r hr => h r (by omega))⟩
theorem mInv_e {n m : Int} {up lo ls fl pb g : Int → Int} {a A : Int} {p : Nat} (hC : pCyc n m up lo ls fl pb a p) (A0 : 1 ≤ A) (h : mInv m up lo ls fl pb a A p g) : hBal m up lo g ∧ hVal m ls fl + 1 ≤ hVal m ls g ∧ ∀ e : Int, 0 ≤ e → e < m → 0 ≤ g e := by
  obtain ⟨h1, h2, h3⟩ := h
  refine ⟨fun q => ?_, ?_, fun e e0 e1 => (h3 e e0 e1).1.1⟩
  · rw [h1 q, hC.2.1, Int.sub_self, Int.mul_zero]; omega
  · have := Int.mul_pos (show 0 < A by omega) hC.2.2.2.2
    omega
/-! how many nodes lie above a layer -/
def hRk (n : Int) (p : Int → Int) (y : Int) : Int := gSum (fun i => if p i < y then 1 else 0) n.toNat
theorem hRk_b {n : Int} {p : Int → Int} {y : Int} (hn : 0 ≤ n) : 0 ≤ hRk n p y ∧ hRk n p y ≤ n := by
  have := gSum_b (f := fun i => if p i < y then (1 : Int) else 0) (a := 0) (b := 1) n.toNat (fun i _ _ => by
    show (0 : Int) ≤ (if p i < y then 1 else 0) ∧ (if p i < y then (1 : Int) else 0) ≤ 1
    split <;> omega)
  unfold hRk
  omega
theorem hRk_l {n : Int} {p : Int → Int} {y z j : Int} (j0 : 0 ≤ j) (j1 : j < n) (h0 : y ≤ p j) (h1 : p j < z) : hRk n p y + 1 ≤ hRk n p z := gSum_lx (a := j) (w := 1) n.toNat (fun i _ _ => by
  show (if p i < y then (1 : Int) else 0) ≤ (if p i < z then 1 else 0)
  by_cases hc : p i < y
  · rw [if_pos hc, if_pos (by omega)]; omega
  · rw [if_neg hc]; split <;> omega) j0 (by omega) (by
  show (if p j < y then (1 : Int) else 0) + 1 ≤ (if p j < z then 1 else 0)
  rw [if_neg (by omega), if_pos h1]; omega)
theorem hRk_m {n : Int} {p : Int → Int} {y j : Int} (j0 : 0 ≤ j) (j1 : j < n) (h0 : y ≤ p j) : hRk n p y + 1 ≤ n := by
  have a := hRk_l (z := p j + 1) j0 j1 h0 (by omega)
  have b := hRk_b (n := n) (p := p) (y := p j + 1) (by omega)
  omega
theorem gTot_l {m : Int} {up lo l q : Int → Int} (h : ∀ e : Int, 0 ≤ e → e < m → l (lo e) - l (up e) ≤ q (lo e) - q (up e)) : gTot m up lo l ≤ gTot m up lo q := gSum_l _ (fun e e0 e1 => h e e0 (by omega))
/-- no gap of more than three layers -/
theorem gLow_g {n m : Int} {up lo ls l : Int → Int} (hE : uE n m up lo ls) (hL : gLow n m up lo ls l) {b i : Int} (b0 : 1 ≤ b) (i0 : 0 ≤ i) (i1 : i < n) (hi : b ≤ l i) : ∃ j : Int, 0 ≤ j ∧ j < n ∧ b - 3 ≤ l j ∧ l j < b := by
  by_cases hc : ∃ j : Int, 0 ≤ j ∧ j < n ∧ b - 3 ≤ l j ∧ l j < b
  · exact hc
  · exfalso
    have no : ∀ j : Int, 0 ≤ j → j < n → l j < b → l j < b - 3 := fun j j0 j1 hj => by
      by_cases hd : l j < b - 3
      · exact hd
      · exact absurd ⟨j, j0, j1, by omega, hj⟩ hc
    have hf : gFea n m up lo ls (fun j => if b ≤ l j then l j - 1 else l j) := by
      refine ⟨fun j j0 j1 => ?_, fun e e0 e1 => ?_⟩
      · have := hL.1.1 j j0 j1
        show 0 ≤ if b ≤ l j then l j - 1 else l j
        split <;> omega
      · have ee := hE e e0 e1
        have fe := hL.1.2 e e0 e1
        show (if b ≤ l (up e) then l (up e) - 1 else l (up e)) + ls e ≤ if b ≤ l (lo e) then l (lo e) - 1 else l (lo e)
        by_cases h1 : b ≤ l (up e)
        · rw [if_pos h1, if_pos (by omega)]; omega
        · have := no _ ee.1.1 ee.1.2 (by omega)
          rw [if_neg h1]
          by_cases h2 : b ≤ l (lo e)
          · rw [if_pos h2]; omega
          · rw [if_neg h2]; omega
    have := hL.2.2 _ hf (gTot_l (fun e e0 e1 => by
      have ee := hE e e0 e1
      have fe := hL.1.2 e e0 e1
      show (if b ≤ l (lo e) then l (lo e) - 1 else l (lo e)) - (if b ≤ l (up e) then l (up e) - 1 else l (up e)) ≤ _
      by_cases h1 : b ≤ l (up e)
      · rw [if_pos h1, if_pos (by omega)]; omega
      · rw [if_neg h1]
        by_cases h2 : b ≤ l (lo e)
        · rw [if_pos h2]; omega
        · rw [if_neg h2]; omega)) i i0 i1
    have h2 : l i ≤ if b ≤ l i then l i - 1 else l i := this
    rw [if_pos hi] at h2
    omega
theorem gLow_33 {n m : Int} {up lo ls l : Int → Int} (hn : n ≤ 12) (hE : uE n m up lo ls) (hL : gLow n m up lo ls l) {i : Int} (i0 : 0 ≤ i) (i1 : i < n) : 0 ≤ l i ∧ l i ≤ 33 := by
  have h0 := hL.1.1 i i0 i1
  have key : ∀ y : Nat, (y : Int) ≤ l i → (y : Int) ≤ 3 * hRk n l y := by
    intro y
    induction y using Nat.strongRecOn with
    | ind y ih =>
      intro hy
      by_cases hc : y = 0
      · have := hRk_b (n := n) (p := l) (y := (y : Int)) (by omega)
        omega
      · obtain ⟨j, j0, j1, j2, j3⟩ := gLow_g hE hL (b := y) (by omega) i0 i1 hy
        have lj := hL.1.1 j j0 j1
        have a := ih (l j).toNat (by omega) (by omega)
        rw [show ((l j).toNat : Int) = l j by omega] at a
        have := hRk_l (y := l j) (z := (y : Int)) j0 j1 (Int.le_refl _) j3
        omega
  have k := key (l i).toNat (by omega)
  rw [show ((l i).toNat : Int) = l i by omega] at k
  have := hRk_m (p := l) (y := l i) i0 i1 (Int.le_refl _)
  omega
/-- the values of flows are bounded -/
theorem hVal_660 {n m : Int} {up lo ls fl q : Int → Int} (hm : m ≤ 20) (hE : uE n m up lo ls) (h0 : ∀ e : Int, 0 ≤ e → e < m → 0 ≤ fl e) (hb : hBal m up lo fl) (hq : ∀ i : Int, 0 ≤ i → i < n → 0 ≤ q i ∧ q i ≤ 11) (hd : ∀ e : Int, 0 ≤ e → e < m → q (up e) < q (lo e)) (m0 : 0 ≤ m) : hVal m ls fl ≤ 660 ∧ ∀ e : Int, 0 ≤ e → e < m → fl e ≤ 660 := by
  have a : hVal m ls fl ≤ gSum (fun e => 3 * q (lo e) - 3 * q (up e)) m.toNat := hVal_le (ls := ls) (q := fun i => 3 * q i) h0 hb (fun e e0 e1 => by
    have := hE e e0 e1
    have := hd e e0 e1
    show 3 * q (up e) + ls e ≤ 3 * q (lo e)
    omega)
  have b := gSum_b (f := fun e => 3 * q (lo e) - 3 * q (up e)) (a := 0) (b := 33) m.toNat (fun e e0 e1 => by
    have ee := hE e e0 (by omega)
    have := hd e e0 (by omega)
    have := hq _ ee.1.1 ee.1.2
    have := hq _ ee.2.1.1 ee.2.1.2
    show 0 ≤ 3 * q (lo e) - 3 * q (up e) ∧ 3 * q (lo e) - 3 * q (up e) ≤ 33
    omega)
  have v : hVal m ls fl ≤ 660 := by
    have := b.2
    omega
  refine ⟨v, fun e e0 e1 => ?_⟩
  have c := gSum_lx (f := fun _ => 0) (g := fun e => fl e * ls e) (a := e) (w := fl e) m.toNat (fun i i0 i1 => Int.mul_nonneg (h0 i i0 (by omega)) (by have := hE i i0 (by omega); omega)) e0 (by omega) (by
    have := hE e e0 e1
    have h1 := Int.mul_le_mul_of_nonneg_left (show 1 ≤ ls e by omega) (h0 e e0 e1)
    rw [Int.mul_one] at h1
    show 0 + fl e ≤ fl e * ls e
    omega)
  have z : gSum (fun _ => 0) m.toNat = 0 := by
    have := gSum_b (f := fun _ => 0) (a := 0) (b := 0) m.toNat (fun _ _ _ => ⟨Int.le_refl _, Int.le_refl _⟩)
    omega
  unfold hVal at v
  omega
