/-! the law's loop: one call of both, the switch, all turns -/
set_option maxRecDepth 100000 in
set_option maxHeartbeats 4000000 in
theorem l_75 {D : Nat} (hD : 35 ≤ D) {L i : Int} {X : Int → Int} {μ : MU} (hL : 0 ≤ L ∧ L ≤ 3072) (i0 : 0 ≤ i) (i1 : i ≤ L - 6) (hX : ∀ i : Int, 0 ≤ i → i < L → gOk (X i)) (hA : iAll μ) (ih : ∀ ρ : MU, iAll ρ → gG g_T g_F (gCall g_T g_F D) L X (g_T 227) (fun v _ _ => v = some (gI 1)) 1085 [gN 1, gR 0, gR 61, gI i] [] g_SH ρ 599919 7298895) : gG g_T g_F (gCall g_T g_F D) L X (g_T 227) (fun v _ _ => v = some (gI 1)) 208 [gN 1, gR 0, gR 61, gI i] [] g_SH μ 599919 7298895 := by
  refine gB_gG [1085] 60 ?_
  (conv => whnf); try simp only [gO, gWe, ne_eq, Nat.reduceEqDiff, not_false_eq_true, true_or, or_true, true_and]
  repeat' (first | exact True.intro | (refine ⟨fun hb => ?_, fun hb => ?_⟩ <;> first | (exfalso; omega; done) | exact absurd True.intro hb | ((conv => whnf); try simp only [gO, gWe, ne_eq, Nat.reduceEqDiff, not_false_eq_true, true_or, or_true, true_and])) | (refine ⟨by omega, ?_⟩; (conv => whnf); try simp only [gO, gWe, ne_eq, Nat.reduceEqDiff, not_false_eq_true, true_or, or_true, true_and]) | (refine ⟨fun hb => ?_, ?_⟩ <;> first | (exfalso; omega; done) | exact absurd True.intro hb | ((conv => whnf); try simp only [gO, gWe, ne_eq, Nat.reduceEqDiff, not_false_eq_true, true_or, or_true, true_and])) | fail)
  refine' c_75 (by omega) hA _ _ (fun v ν hm => ?a) (fun v w ρ hw hA2 => ?b)
  case a =>
    (conv => whnf); try simp only [gO, gWe, ne_eq, Nat.reduceEqDiff, not_false_eq_true, true_or, or_true, true_and]
    repeat' (first | exact True.intro | (refine ⟨fun hb => ?_, fun hb => ?_⟩ <;> first | (exfalso; omega; done) | exact absurd True.intro hb | ((conv => whnf); try simp only [gO, gWe, ne_eq, Nat.reduceEqDiff, not_false_eq_true, true_or, or_true, true_and])) | (refine ⟨by omega, ?_⟩; (conv => whnf); try simp only [gO, gWe, ne_eq, Nat.reduceEqDiff, not_false_eq_true, true_or, or_true, true_and]) | (refine ⟨fun hb => ?_, ?_⟩ <;> first | (exfalso; omega; done) | exact absurd True.intro hb | ((conv => whnf); try simp only [gO, gWe, ne_eq, Nat.reduceEqDiff, not_false_eq_true, true_or, or_true, true_and])) | fail)
    exact hm
  case b =>
    subst hw
    (conv => whnf); try simp only [gO, gWe, ne_eq, Nat.reduceEqDiff, not_false_eq_true, true_or, or_true, true_and]
    repeat' (first | exact True.intro | (refine ⟨fun hb => ?_, fun hb => ?_⟩ <;> first | (exfalso; omega; done) | exact absurd True.intro hb | ((conv => whnf); try simp only [gO, gWe, ne_eq, Nat.reduceEqDiff, not_false_eq_true, true_or, or_true, true_and])) | (refine ⟨by omega, ?_⟩; (conv => whnf); try simp only [gO, gWe, ne_eq, Nat.reduceEqDiff, not_false_eq_true, true_or, or_true, true_and]) | (refine ⟨fun hb => ?_, ?_⟩ <;> first | (exfalso; omega; done) | exact absurd True.intro hb | ((conv => whnf); try simp only [gO, gWe, ne_eq, Nat.reduceEqDiff, not_false_eq_true, true_or, or_true, true_and])) | fail)
    exact ih ρ hA2
set_option maxRecDepth 100000 in
set_option maxHeartbeats 4000000 in
theorem l_76 {D : Nat} (hD : 35 ≤ D) {L i : Int} {X : Int → Int} {μ : MU} (hL : 0 ≤ L ∧ L ≤ 3072) (i0 : 0 ≤ i) (i1 : i ≤ L - 6) (hX : ∀ i : Int, 0 ≤ i → i < L → gOk (X i)) (hA : iAll μ) (ih : ∀ ρ : MU, iAll ρ → gG g_T g_F (gCall g_T g_F D) L X (g_T 227) (fun v _ _ => v = some (gI 1)) 1085 [gN 1, gR 0, gR 61, gI i] [] g_SH ρ 599919 7298895) : gG g_T g_F (gCall g_T g_F D) L X (g_T 227) (fun v _ _ => v = some (gI 1)) 221 [gN 1, gR 0, gR 61, gI i] [] g_SH μ 599919 7298895 := by
  refine gB_gG [1085] 60 ?_
  (conv => whnf); try simp only [gO, gWe, ne_eq, Nat.reduceEqDiff, not_false_eq_true, true_or, or_true, true_and]
  repeat' (first | exact True.intro | (refine ⟨fun hb => ?_, fun hb => ?_⟩ <;> first | (exfalso; omega; done) | exact absurd True.intro hb | ((conv => whnf); try simp only [gO, gWe, ne_eq, Nat.reduceEqDiff, not_false_eq_true, true_or, or_true, true_and])) | (refine ⟨by omega, ?_⟩; (conv => whnf); try simp only [gO, gWe, ne_eq, Nat.reduceEqDiff, not_false_eq_true, true_or, or_true, true_and]) | (refine ⟨fun hb => ?_, ?_⟩ <;> first | (exfalso; omega; done) | exact absurd True.intro hb | ((conv => whnf); try simp only [gO, gWe, ne_eq, Nat.reduceEqDiff, not_false_eq_true, true_or, or_true, true_and])) | fail)
  refine' c_76 (by omega) hA _ _ (fun v ν hm => ?a) (fun v w ρ hw hA2 => ?b)
  case a =>
    (conv => whnf); try simp only [gO, gWe, ne_eq, Nat.reduceEqDiff, not_false_eq_true, true_or, or_true, true_and]
    repeat' (first | exact True.intro | (refine ⟨fun hb => ?_, fun hb => ?_⟩ <;> first | (exfalso; omega; done) | exact absurd True.intro hb | ((conv => whnf); try simp only [gO, gWe, ne_eq, Nat.reduceEqDiff, not_false_eq_true, true_or, or_true, true_and])) | (refine ⟨by omega, ?_⟩; (conv => whnf); try simp only [gO, gWe, ne_eq, Nat.reduceEqDiff, not_false_eq_true, true_or, or_true, true_and]) | (refine ⟨fun hb => ?_, ?_⟩ <;> first | (exfalso; omega; done) | exact absurd True.intro hb | ((conv => whnf); try simp only [gO, gWe, ne_eq, Nat.reduceEqDiff, not_false_eq_true, true_or, or_true, true_and])) | fail)
    exact hm
  case b =>
    subst hw
    (conv => whnf); try simp only [gO, gWe, ne_eq, Nat.reduceEqDiff, not_false_eq_true, true_or, or_true, true_and]
    repeat' (first | exact True.intro | (refine ⟨fun hb => ?_, fun hb => ?_⟩ <;> first | (exfalso; omega; done) | exact absurd True.intro hb | ((conv => whnf); try simp only [gO, gWe, ne_eq, Nat.reduceEqDiff, not_false_eq_true, true_or, or_true, true_and])) | (refine ⟨by omega, ?_⟩; (conv => whnf); try simp only [gO, gWe, ne_eq, Nat.reduceEqDiff, not_false_eq_true, true_or, or_true, true_and]) | (refine ⟨fun hb => ?_, ?_⟩ <;> first | (exfalso; omega; done) | exact absurd True.intro hb | ((conv => whnf); try simp only [gO, gWe, ne_eq, Nat.reduceEqDiff, not_false_eq_true, true_or, or_true, true_and])) | fail)
    exact ih ρ hA2
set_option maxRecDepth 100000 in
set_option maxHeartbeats 4000000 in
theorem l_77 {D : Nat} (hD : 35 ≤ D) {L i : Int} {X : Int → Int} {μ : MU} (hL : 0 ≤ L ∧ L ≤ 3072) (i0 : 0 ≤ i) (i1 : i ≤ L - 6) (hX : ∀ i : Int, 0 ≤ i → i < L → gOk (X i)) (hA : iAll μ) (ih : ∀ ρ : MU, iAll ρ → gG g_T g_F (gCall g_T g_F D) L X (g_T 227) (fun v _ _ => v = some (gI 1)) 1085 [gN 1, gR 0, gR 61, gI i] [] g_SH ρ 599919 7298895) : gG g_T g_F (gCall g_T g_F D) L X (g_T 227) (fun v _ _ => v = some (gI 1)) 254 [gN 1, gR 0, gR 61, gI i] [] g_SH μ 599919 7298895 := by
  refine gB_gG [1085] 60 ?_
  (conv => whnf); try simp only [gO, gWe, ne_eq, Nat.reduceEqDiff, not_false_eq_true, true_or, or_true, true_and]
  repeat' (first | exact True.intro | (refine ⟨fun hb => ?_, fun hb => ?_⟩ <;> first | (exfalso; omega; done) | exact absurd True.intro hb | ((conv => whnf); try simp only [gO, gWe, ne_eq, Nat.reduceEqDiff, not_false_eq_true, true_or, or_true, true_and])) | (refine ⟨by omega, ?_⟩; (conv => whnf); try simp only [gO, gWe, ne_eq, Nat.reduceEqDiff, not_false_eq_true, true_or, or_true, true_and]) | (refine ⟨fun hb => ?_, ?_⟩ <;> first | (exfalso; omega; done) | exact absurd True.intro hb | ((conv => whnf); try simp only [gO, gWe, ne_eq, Nat.reduceEqDiff, not_false_eq_true, true_or, or_true, true_and])) | fail)
  refine' c_77 (by omega) hA _ _ (fun v ν hm => ?a) (fun v w ρ hw hA2 => ?b)
  case a =>
    (conv => whnf); try simp only [gO, gWe, ne_eq, Nat.reduceEqDiff, not_false_eq_true, true_or, or_true, true_and]
    repeat' (first | exact True.intro | (refine ⟨fun hb => ?_, fun hb => ?_⟩ <;> first | (exfalso; omega; done) | exact absurd True.intro hb | ((conv => whnf); try simp only [gO, gWe, ne_eq, Nat.reduceEqDiff, not_false_eq_true, true_or, or_true, true_and])) | (refine ⟨by omega, ?_⟩; (conv => whnf); try simp only [gO, gWe, ne_eq, Nat.reduceEqDiff, not_false_eq_true, true_or, or_true, true_and]) | (refine ⟨fun hb => ?_, ?_⟩ <;> first | (exfalso; omega; done) | exact absurd True.intro hb | ((conv => whnf); try simp only [gO, gWe, ne_eq, Nat.reduceEqDiff, not_false_eq_true, true_or, or_true, true_and])) | fail)
    exact hm
  case b =>
    subst hw
    (conv => whnf); try simp only [gO, gWe, ne_eq, Nat.reduceEqDiff, not_false_eq_true, true_or, or_true, true_and]
    repeat' (first | exact True.intro | (refine ⟨fun hb => ?_, fun hb => ?_⟩ <;> first | (exfalso; omega; done) | exact absurd True.intro hb | ((conv => whnf); try simp only [gO, gWe, ne_eq, Nat.reduceEqDiff, not_false_eq_true, true_or, or_true, true_and])) | (refine ⟨by omega, ?_⟩; (conv => whnf); try simp only [gO, gWe, ne_eq, Nat.reduceEqDiff, not_false_eq_true, true_or, or_true, true_and]) | (refine ⟨fun hb => ?_, ?_⟩ <;> first | (exfalso; omega; done) | exact absurd True.intro hb | ((conv => whnf); try simp only [gO, gWe, ne_eq, Nat.reduceEqDiff, not_false_eq_true, true_or, or_true, true_and])) | fail)
    exact ih ρ hA2
set_option maxRecDepth 100000 in
set_option maxHeartbeats 4000000 in
theorem l_78 {D : Nat} (hD : 35 ≤ D) {L i : Int} {X : Int → Int} {μ : MU} (hL : 0 ≤ L ∧ L ≤ 3072) (i0 : 0 ≤ i) (i1 : i ≤ L - 6) (hX : ∀ i : Int, 0 ≤ i → i < L → gOk (X i)) (hA : iAll μ) (ih : ∀ ρ : MU, iAll ρ → gG g_T g_F (gCall g_T g_F D) L X (g_T 227) (fun v _ _ => v = some (gI 1)) 1085 [gN 1, gR 0, gR 61, gI i] [] g_SH ρ 599919 7298895) : gG g_T g_F (gCall g_T g_F D) L X (g_T 227) (fun v _ _ => v = some (gI 1)) 317 [gN 1, gR 0, gR 61, gI i] [] g_SH μ 599919 7298895 := by
  refine gB_gG [1085] 60 ?_
  (conv => whnf); try simp only [gO, gWe, ne_eq, Nat.reduceEqDiff, not_false_eq_true, true_or, or_true, true_and]
  repeat' (first | exact True.intro | (refine ⟨fun hb => ?_, fun hb => ?_⟩ <;> first | (exfalso; omega; done) | exact absurd True.intro hb | ((conv => whnf); try simp only [gO, gWe, ne_eq, Nat.reduceEqDiff, not_false_eq_true, true_or, or_true, true_and])) | (refine ⟨by omega, ?_⟩; (conv => whnf); try simp only [gO, gWe, ne_eq, Nat.reduceEqDiff, not_false_eq_true, true_or, or_true, true_and]) | (refine ⟨fun hb => ?_, ?_⟩ <;> first | (exfalso; omega; done) | exact absurd True.intro hb | ((conv => whnf); try simp only [gO, gWe, ne_eq, Nat.reduceEqDiff, not_false_eq_true, true_or, or_true, true_and])) | fail)
  refine' c_78 (by omega) hA _ _ (fun v ν hm => ?a) (fun v w ρ hw hA2 => ?b)
  case a =>
    (conv => whnf); try simp only [gO, gWe, ne_eq, Nat.reduceEqDiff, not_false_eq_true, true_or, or_true, true_and]
    repeat' (first | exact True.intro | (refine ⟨fun hb => ?_, fun hb => ?_⟩ <;> first | (exfalso; omega; done) | exact absurd True.intro hb | ((conv => whnf); try simp only [gO, gWe, ne_eq, Nat.reduceEqDiff, not_false_eq_true, true_or, or_true, true_and])) | (refine ⟨by omega, ?_⟩; (conv => whnf); try simp only [gO, gWe, ne_eq, Nat.reduceEqDiff, not_false_eq_true, true_or, or_true, true_and]) | (refine ⟨fun hb => ?_, ?_⟩ <;> first | (exfalso; omega; done) | exact absurd True.intro hb | ((conv => whnf); try simp only [gO, gWe, ne_eq, Nat.reduceEqDiff, not_false_eq_true, true_or, or_true, true_and])) | fail)
    exact hm
  case b =>
    subst hw
    (conv => whnf); try simp only [gO, gWe, ne_eq, Nat.reduceEqDiff, not_false_eq_true, true_or, or_true, true_and]
    repeat' (first | exact True.intro | (refine ⟨fun hb => ?_, fun hb => ?_⟩ <;> first | (exfalso; omega; done) | exact absurd True.intro hb | ((conv => whnf); try simp only [gO, gWe, ne_eq, Nat.reduceEqDiff, not_false_eq_true, true_or, or_true, true_and])) | (refine ⟨by omega, ?_⟩; (conv => whnf); try simp only [gO, gWe, ne_eq, Nat.reduceEqDiff, not_false_eq_true, true_or, or_true, true_and]) | (refine ⟨fun hb => ?_, ?_⟩ <;> first | (exfalso; omega; done) | exact absurd True.intro hb | ((conv => whnf); try simp only [gO, gWe, ne_eq, Nat.reduceEqDiff, not_false_eq_true, true_or, or_true, true_and])) | fail)
    exact ih ρ hA2
set_option maxRecDepth 100000 in
set_option maxHeartbeats 4000000 in
theorem l_79 {D : Nat} (hD : 35 ≤ D) {L i : Int} {X : Int → Int} {μ : MU} (hL : 0 ≤ L ∧ L ≤ 3072) (i0 : 0 ≤ i) (i1 : i ≤ L - 6) (hX : ∀ i : Int, 0 ≤ i → i < L → gOk (X i)) (hA : iAll μ) (ih : ∀ ρ : MU, iAll ρ → gG g_T g_F (gCall g_T g_F D) L X (g_T 227) (fun v _ _ => v = some (gI 1)) 1085 [gN 1, gR 0, gR 61, gI i] [] g_SH ρ 599919 7298895) : gG g_T g_F (gCall g_T g_F D) L X (g_T 227) (fun v _ _ => v = some (gI 1)) 330 [gN 1, gR 0, gR 61, gI i] [] g_SH μ 599919 7298895 := by
  refine gB_gG [1085] 60 ?_
  (conv => whnf); try simp only [gO, gWe, ne_eq, Nat.reduceEqDiff, not_false_eq_true, true_or, or_true, true_and]
  repeat' (first | exact True.intro | (refine ⟨fun hb => ?_, fun hb => ?_⟩ <;> first | (exfalso; omega; done) | exact absurd True.intro hb | ((conv => whnf); try simp only [gO, gWe, ne_eq, Nat.reduceEqDiff, not_false_eq_true, true_or, or_true, true_and])) | (refine ⟨by omega, ?_⟩; (conv => whnf); try simp only [gO, gWe, ne_eq, Nat.reduceEqDiff, not_false_eq_true, true_or, or_true, true_and]) | (refine ⟨fun hb => ?_, ?_⟩ <;> first | (exfalso; omega; done) | exact absurd True.intro hb | ((conv => whnf); try simp only [gO, gWe, ne_eq, Nat.reduceEqDiff, not_false_eq_true, true_or, or_true, true_and])) | fail)
  refine' c_79 (by omega) hA _ _ (fun v ν hm => ?a) (fun v w ρ hw hA2 => ?b)
  case a =>
    (conv => whnf); try simp only [gO, gWe, ne_eq, Nat.reduceEqDiff, not_false_eq_true, true_or, or_true, true_and]
    repeat' (first | exact True.intro | (refine ⟨fun hb => ?_, fun hb => ?_⟩ <;> first | (exfalso; omega; done) | exact absurd True.intro hb | ((conv => whnf); try simp only [gO, gWe, ne_eq, Nat.reduceEqDiff, not_false_eq_true, true_or, or_true, true_and])) | (refine ⟨by omega, ?_⟩; (conv => whnf); try simp only [gO, gWe, ne_eq, Nat.reduceEqDiff, not_false_eq_true, true_or, or_true, true_and]) | (refine ⟨fun hb => ?_, ?_⟩ <;> first | (exfalso; omega; done) | exact absurd True.intro hb | ((conv => whnf); try simp only [gO, gWe, ne_eq, Nat.reduceEqDiff, not_false_eq_true, true_or, or_true, true_and])) | fail)
    exact hm
  case b =>
    subst hw
    (conv => whnf); try simp only [gO, gWe, ne_eq, Nat.reduceEqDiff, not_false_eq_true, true_or, or_true, true_and]
    repeat' (first | exact True.intro | (refine ⟨fun hb => ?_, fun hb => ?_⟩ <;> first | (exfalso; omega; done) | exact absurd True.intro hb | ((conv => whnf); try simp only [gO, gWe, ne_eq, Nat.reduceEqDiff, not_false_eq_true, true_or, or_true, true_and])) | (refine ⟨by omega, ?_⟩; (conv => whnf); try simp only [gO, gWe, ne_eq, Nat.reduceEqDiff, not_false_eq_true, true_or, or_true, true_and]) | (refine ⟨fun hb => ?_, ?_⟩ <;> first | (exfalso; omega; done) | exact absurd True.intro hb | ((conv => whnf); try simp only [gO, gWe, ne_eq, Nat.reduceEqDiff, not_false_eq_true, true_or, or_true, true_and])) | fail)
    exact ih ρ hA2
set_option maxRecDepth 100000 in
set_option maxHeartbeats 4000000 in
theorem l_80 {D : Nat} (hD : 35 ≤ D) {L i : Int} {X : Int → Int} {μ : MU} (hL : 0 ≤ L ∧ L ≤ 3072) (i0 : 0 ≤ i) (i1 : i ≤ L - 6) (hX : ∀ i : Int, 0 ≤ i → i < L → gOk (X i)) (hA : iAll μ) (ih : ∀ ρ : MU, iAll ρ → gG g_T g_F (gCall g_T g_F D) L X (g_T 227) (fun v _ _ => v = some (gI 1)) 1085 [gN 1, gR 0, gR 61, gI i] [] g_SH ρ 599919 7298895) : gG g_T g_F (gCall g_T g_F D) L X (g_T 227) (fun v _ _ => v = some (gI 1)) 363 [gN 1, gR 0, gR 61, gI i] [] g_SH μ 599919 7298895 := by
  refine gB_gG [1085] 60 ?_
  (conv => whnf); try simp only [gO, gWe, ne_eq, Nat.reduceEqDiff, not_false_eq_true, true_or, or_true, true_and]
  repeat' (first | exact True.intro | (refine ⟨fun hb => ?_, fun hb => ?_⟩ <;> first | (exfalso; omega; done) | exact absurd True.intro hb | ((conv => whnf); try simp only [gO, gWe, ne_eq, Nat.reduceEqDiff, not_false_eq_true, true_or, or_true, true_and])) | (refine ⟨by omega, ?_⟩; (conv => whnf); try simp only [gO, gWe, ne_eq, Nat.reduceEqDiff, not_false_eq_true, true_or, or_true, true_and]) | (refine ⟨fun hb => ?_, ?_⟩ <;> first | (exfalso; omega; done) | exact absurd True.intro hb | ((conv => whnf); try simp only [gO, gWe, ne_eq, Nat.reduceEqDiff, not_false_eq_true, true_or, or_true, true_and])) | fail)
  refine' c_80 (by omega) hA _ _ (fun v ν hm => ?a) (fun v w ρ hw hA2 => ?b)
  case a =>
    (conv => whnf); try simp only [gO, gWe, ne_eq, Nat.reduceEqDiff, not_false_eq_true, true_or, or_true, true_and]
    repeat' (first | exact True.intro | (refine ⟨fun hb => ?_, fun hb => ?_⟩ <;> first | (exfalso; omega; done) | exact absurd True.intro hb | ((conv => whnf); try simp only [gO, gWe, ne_eq, Nat.reduceEqDiff, not_false_eq_true, true_or, or_true, true_and])) | (refine ⟨by omega, ?_⟩; (conv => whnf); try simp only [gO, gWe, ne_eq, Nat.reduceEqDiff, not_false_eq_true, true_or, or_true, true_and]) | (refine ⟨fun hb => ?_, ?_⟩ <;> first | (exfalso; omega; done) | exact absurd True.intro hb | ((conv => whnf); try simp only [gO, gWe, ne_eq, Nat.reduceEqDiff, not_false_eq_true, true_or, or_true, true_and])) | fail)
    exact hm
  case b =>
    subst hw
    (conv => whnf); try simp only [gO, gWe, ne_eq, Nat.reduceEqDiff, not_false_eq_true, true_or, or_true, true_and]
    repeat' (first | exact True.intro | (refine ⟨fun hb => ?_, fun hb => ?_⟩ <;> first | (exfalso; omega; done) | exact absurd True.intro hb | ((conv => whnf); try simp only [gO, gWe, ne_eq, Nat.reduceEqDiff, not_false_eq_true, true_or, or_true, true_and])) | (refine ⟨by omega, ?_⟩; (conv => whnf); try simp only [gO, gWe, ne_eq, Nat.reduceEqDiff, not_false_eq_true, true_or, or_true, true_and]) | (refine ⟨fun hb => ?_, ?_⟩ <;> first | (exfalso; omega; done) | exact absurd True.intro hb | ((conv => whnf); try simp only [gO, gWe, ne_eq, Nat.reduceEqDiff, not_false_eq_true, true_or, or_true, true_and])) | fail)
    exact ih ρ hA2
set_option maxRecDepth 100000 in
set_option maxHeartbeats 4000000 in
theorem l_81 {D : Nat} (hD : 35 ≤ D) {L i : Int} {X : Int → Int} {μ : MU} (hL : 0 ≤ L ∧ L ≤ 3072) (i0 : 0 ≤ i) (i1 : i ≤ L - 6) (hX : ∀ i : Int, 0 ≤ i → i < L → gOk (X i)) (hA : iAll μ) (ih : ∀ ρ : MU, iAll ρ → gG g_T g_F (gCall g_T g_F D) L X (g_T 227) (fun v _ _ => v = some (gI 1)) 1085 [gN 1, gR 0, gR 61, gI i] [] g_SH ρ 599919 7298895) : gG g_T g_F (gCall g_T g_F D) L X (g_T 227) (fun v _ _ => v = some (gI 1)) 376 [gN 1, gR 0, gR 61, gI i] [] g_SH μ 599919 7298895 := by
  refine gB_gG [1085] 60 ?_
  (conv => whnf); try simp only [gO, gWe, ne_eq, Nat.reduceEqDiff, not_false_eq_true, true_or, or_true, true_and]
  repeat' (first | exact True.intro | (refine ⟨fun hb => ?_, fun hb => ?_⟩ <;> first | (exfalso; omega; done) | exact absurd True.intro hb | ((conv => whnf); try simp only [gO, gWe, ne_eq, Nat.reduceEqDiff, not_false_eq_true, true_or, or_true, true_and])) | (refine ⟨by omega, ?_⟩; (conv => whnf); try simp only [gO, gWe, ne_eq, Nat.reduceEqDiff, not_false_eq_true, true_or, or_true, true_and]) | (refine ⟨fun hb => ?_, ?_⟩ <;> first | (exfalso; omega; done) | exact absurd True.intro hb | ((conv => whnf); try simp only [gO, gWe, ne_eq, Nat.reduceEqDiff, not_false_eq_true, true_or, or_true, true_and])) | fail)
  refine' c_81 (by omega) hA _ _ (fun v ν hm => ?a) (fun v w ρ hw hA2 => ?b)
  case a =>
    (conv => whnf); try simp only [gO, gWe, ne_eq, Nat.reduceEqDiff, not_false_eq_true, true_or, or_true, true_and]
    repeat' (first | exact True.intro | (refine ⟨fun hb => ?_, fun hb => ?_⟩ <;> first | (exfalso; omega; done) | exact absurd True.intro hb | ((conv => whnf); try simp only [gO, gWe, ne_eq, Nat.reduceEqDiff, not_false_eq_true, true_or, or_true, true_and])) | (refine ⟨by omega, ?_⟩; (conv => whnf); try simp only [gO, gWe, ne_eq, Nat.reduceEqDiff, not_false_eq_true, true_or, or_true, true_and]) | (refine ⟨fun hb => ?_, ?_⟩ <;> first | (exfalso; omega; done) | exact absurd True.intro hb | ((conv => whnf); try simp only [gO, gWe, ne_eq, Nat.reduceEqDiff, not_false_eq_true, true_or, or_true, true_and])) | fail)
    exact hm
  case b =>
    subst hw
    (conv => whnf); try simp only [gO, gWe, ne_eq, Nat.reduceEqDiff, not_false_eq_true, true_or, or_true, true_and]
    repeat' (first | exact True.intro | (refine ⟨fun hb => ?_, fun hb => ?_⟩ <;> first | (exfalso; omega; done) | exact absurd True.intro hb | ((conv => whnf); try simp only [gO, gWe, ne_eq, Nat.reduceEqDiff, not_false_eq_true, true_or, or_true, true_and])) | (refine ⟨by omega, ?_⟩; (conv => whnf); try simp only [gO, gWe, ne_eq, Nat.reduceEqDiff, not_false_eq_true, true_or, or_true, true_and]) | (refine ⟨fun hb => ?_, ?_⟩ <;> first | (exfalso; omega; done) | exact absurd True.intro hb | ((conv => whnf); try simp only [gO, gWe, ne_eq, Nat.reduceEqDiff, not_false_eq_true, true_or, or_true, true_and])) | fail)
    exact ih ρ hA2
set_option maxRecDepth 100000 in
set_option maxHeartbeats 4000000 in
theorem l_82 {D : Nat} (hD : 35 ≤ D) {L i : Int} {X : Int → Int} {μ : MU} (hL : 0 ≤ L ∧ L ≤ 3072) (i0 : 0 ≤ i) (i1 : i ≤ L - 6) (hX : ∀ i : Int, 0 ≤ i → i < L → gOk (X i)) (hA : iAll μ) (ih : ∀ ρ : MU, iAll ρ → gG g_T g_F (gCall g_T g_F D) L X (g_T 227) (fun v _ _ => v = some (gI 1)) 1085 [gN 1, gR 0, gR 61, gI i] [] g_SH ρ 599919 7298895) : gG g_T g_F (gCall g_T g_F D) L X (g_T 227) (fun v _ _ => v = some (gI 1)) 389 [gN 1, gR 0, gR 61, gI i] [] g_SH μ 599919 7298895 := by
  refine gB_gG [1085] 60 ?_
  (conv => whnf); try simp only [gO, gWe, ne_eq, Nat.reduceEqDiff, not_false_eq_true, true_or, or_true, true_and]
  repeat' (first | exact True.intro | (refine ⟨fun hb => ?_, fun hb => ?_⟩ <;> first | (exfalso; omega; done) | exact absurd True.intro hb | ((conv => whnf); try simp only [gO, gWe, ne_eq, Nat.reduceEqDiff, not_false_eq_true, true_or, or_true, true_and])) | (refine ⟨by omega, ?_⟩; (conv => whnf); try simp only [gO, gWe, ne_eq, Nat.reduceEqDiff, not_false_eq_true, true_or, or_true, true_and]) | (refine ⟨fun hb => ?_, ?_⟩ <;> first | (exfalso; omega; done) | exact absurd True.intro hb | ((conv => whnf); try simp only [gO, gWe, ne_eq, Nat.reduceEqDiff, not_false_eq_true, true_or, or_true, true_and])) | fail)
  refine' c_82 (by omega) hA _ _ (fun v ν hm => ?a) (fun v w ρ hw hA2 => ?b)
  case a =>
    (conv => whnf); try simp only [gO, gWe, ne_eq, Nat.reduceEqDiff, not_false_eq_true, true_or, or_true, true_and]
    repeat' (first | exact True.intro | (refine ⟨fun hb => ?_, fun hb => ?_⟩ <;> first | (exfalso; omega; done) | exact absurd True.intro hb | ((conv => whnf); try simp only [gO, gWe, ne_eq, Nat.reduceEqDiff, not_false_eq_true, true_or, or_true, true_and])) | (refine ⟨by omega, ?_⟩; (conv => whnf); try simp only [gO, gWe, ne_eq, Nat.reduceEqDiff, not_false_eq_true, true_or, or_true, true_and]) | (refine ⟨fun hb => ?_, ?_⟩ <;> first | (exfalso; omega; done) | exact absurd True.intro hb | ((conv => whnf); try simp only [gO, gWe, ne_eq, Nat.reduceEqDiff, not_false_eq_true, true_or, or_true, true_and])) | fail)
    exact hm
  case b =>
    subst hw
    (conv => whnf); try simp only [gO, gWe, ne_eq, Nat.reduceEqDiff, not_false_eq_true, true_or, or_true, true_and]
    repeat' (first | exact True.intro | (refine ⟨fun hb => ?_, fun hb => ?_⟩ <;> first | (exfalso; omega; done) | exact absurd True.intro hb | ((conv => whnf); try simp only [gO, gWe, ne_eq, Nat.reduceEqDiff, not_false_eq_true, true_or, or_true, true_and])) | (refine ⟨by omega, ?_⟩; (conv => whnf); try simp only [gO, gWe, ne_eq, Nat.reduceEqDiff, not_false_eq_true, true_or, or_true, true_and]) | (refine ⟨fun hb => ?_, ?_⟩ <;> first | (exfalso; omega; done) | exact absurd True.intro hb | ((conv => whnf); try simp only [gO, gWe, ne_eq, Nat.reduceEqDiff, not_false_eq_true, true_or, or_true, true_and])) | fail)
    exact ih ρ hA2
set_option maxRecDepth 100000 in
set_option maxHeartbeats 4000000 in
theorem l_83 {D : Nat} (hD : 35 ≤ D) {L i : Int} {X : Int → Int} {μ : MU} (hL : 0 ≤ L ∧ L ≤ 3072) (i0 : 0 ≤ i) (i1 : i ≤ L - 6) (hX : ∀ i : Int, 0 ≤ i → i < L → gOk (X i)) (hA : iAll μ) (ih : ∀ ρ : MU, iAll ρ → gG g_T g_F (gCall g_T g_F D) L X (g_T 227) (fun v _ _ => v = some (gI 1)) 1085 [gN 1, gR 0, gR 61, gI i] [] g_SH ρ 599919 7298895) : gG g_T g_F (gCall g_T g_F D) L X (g_T 227) (fun v _ _ => v = some (gI 1)) 422 [gN 1, gR 0, gR 61, gI i] [] g_SH μ 599919 7298895 := by
  refine gB_gG [1085] 60 ?_
  (conv => whnf); try simp only [gO, gWe, ne_eq, Nat.reduceEqDiff, not_false_eq_true, true_or, or_true, true_and]
  repeat' (first | exact True.intro | (refine ⟨fun hb => ?_, fun hb => ?_⟩ <;> first | (exfalso; omega; done) | exact absurd True.intro hb | ((conv => whnf); try simp only [gO, gWe, ne_eq, Nat.reduceEqDiff, not_false_eq_true, true_or, or_true, true_and])) | (refine ⟨by omega, ?_⟩; (conv => whnf); try simp only [gO, gWe, ne_eq, Nat.reduceEqDiff, not_false_eq_true, true_or, or_true, true_and]) | (refine ⟨fun hb => ?_, ?_⟩ <;> first | (exfalso; omega; done) | exact absurd True.intro hb | ((conv => whnf); try simp only [gO, gWe, ne_eq, Nat.reduceEqDiff, not_false_eq_true, true_or, or_true, true_and])) | fail)
  refine' c_83 (by omega) hA _ _ (fun v ν hm => ?a) (fun v w ρ hw hA2 => ?b)
  case a =>
    (conv => whnf); try simp only [gO, gWe, ne_eq, Nat.reduceEqDiff, not_false_eq_true, true_or, or_true, true_and]
    repeat' (first | exact True.intro | (refine ⟨fun hb => ?_, fun hb => ?_⟩ <;> first | (exfalso; omega; done) | exact absurd True.intro hb | ((conv => whnf); try simp only [gO, gWe, ne_eq, Nat.reduceEqDiff, not_false_eq_true, true_or, or_true, true_and])) | (refine ⟨by omega, ?_⟩; (conv => whnf); try simp only [gO, gWe, ne_eq, Nat.reduceEqDiff, not_false_eq_true, true_or, or_true, true_and]) | (refine ⟨fun hb => ?_, ?_⟩ <;> first | (exfalso; omega; done) | exact absurd True.intro hb | ((conv => whnf); try simp only [gO, gWe, ne_eq, Nat.reduceEqDiff, not_false_eq_true, true_or, or_true, true_and])) | fail)
    exact hm
  case b =>
    subst hw
    (conv => whnf); try simp only [gO, gWe, ne_eq, Nat.reduceEqDiff, not_false_eq_true, true_or, or_true, true_and]
    repeat' (first | exact True.intro | (refine ⟨fun hb => ?_, fun hb => ?_⟩ <;> first | (exfalso; omega; done) | exact absurd True.intro hb | ((conv => whnf); try simp only [gO, gWe, ne_eq, Nat.reduceEqDiff, not_false_eq_true, true_or, or_true, true_and])) | (refine ⟨by omega, ?_⟩; (conv => whnf); try simp only [gO, gWe, ne_eq, Nat.reduceEqDiff, not_false_eq_true, true_or, or_true, true_and]) | (refine ⟨fun hb => ?_, ?_⟩ <;> first | (exfalso; omega; done) | exact absurd True.intro hb | ((conv => whnf); try simp only [gO, gWe, ne_eq, Nat.reduceEqDiff, not_false_eq_true, true_or, or_true, true_and])) | fail)
    exact ih ρ hA2
set_option maxRecDepth 100000 in
set_option maxHeartbeats 4000000 in
theorem l_84 {D : Nat} (hD : 35 ≤ D) {L i : Int} {X : Int → Int} {μ : MU} (hL : 0 ≤ L ∧ L ≤ 3072) (i0 : 0 ≤ i) (i1 : i ≤ L - 6) (hX : ∀ i : Int, 0 ≤ i → i < L → gOk (X i)) (hA : iAll μ) (ih : ∀ ρ : MU, iAll ρ → gG g_T g_F (gCall g_T g_F D) L X (g_T 227) (fun v _ _ => v = some (gI 1)) 1085 [gN 1, gR 0, gR 61, gI i] [] g_SH ρ 599919 7298895) : gG g_T g_F (gCall g_T g_F D) L X (g_T 227) (fun v _ _ => v = some (gI 1)) 445 [gN 1, gR 0, gR 61, gI i] [] g_SH μ 599919 7298895 := by
  refine gB_gG [1085] 60 ?_
  (conv => whnf); try simp only [gO, gWe, ne_eq, Nat.reduceEqDiff, not_false_eq_true, true_or, or_true, true_and]
  repeat' (first | exact True.intro | (refine ⟨fun hb => ?_, fun hb => ?_⟩ <;> first | (exfalso; omega; done) | exact absurd True.intro hb | ((conv => whnf); try simp only [gO, gWe, ne_eq, Nat.reduceEqDiff, not_false_eq_true, true_or, or_true, true_and])) | (refine ⟨by omega, ?_⟩; (conv => whnf); try simp only [gO, gWe, ne_eq, Nat.reduceEqDiff, not_false_eq_true, true_or, or_true, true_and]) | (refine ⟨fun hb => ?_, ?_⟩ <;> first | (exfalso; omega; done) | exact absurd True.intro hb | ((conv => whnf); try simp only [gO, gWe, ne_eq, Nat.reduceEqDiff, not_false_eq_true, true_or, or_true, true_and])) | fail)
  refine' c_84 (by omega) hA _ _ (fun v ν hm => ?a) (fun v w ρ hw hA2 => ?b)
  case a =>
    (conv => whnf); try simp only [gO, gWe, ne_eq, Nat.reduceEqDiff, not_false_eq_true, true_or, or_true, true_and]
    repeat' (first | exact True.intro | (refine ⟨fun hb => ?_, fun hb => ?_⟩ <;> first | (exfalso; omega; done) | exact absurd True.intro hb | ((conv => whnf); try simp only [gO, gWe, ne_eq, Nat.reduceEqDiff, not_false_eq_true, true_or, or_true, true_and])) | (refine ⟨by omega, ?_⟩; (conv => whnf); try simp only [gO, gWe, ne_eq, Nat.reduceEqDiff, not_false_eq_true, true_or, or_true, true_and]) | (refine ⟨fun hb => ?_, ?_⟩ <;> first | (exfalso; omega; done) | exact absurd True.intro hb | ((conv => whnf); try simp only [gO, gWe, ne_eq, Nat.reduceEqDiff, not_false_eq_true, true_or, or_true, true_and])) | fail)
    exact hm
  case b =>
    subst hw
    (conv => whnf); try simp only [gO, gWe, ne_eq, Nat.reduceEqDiff, not_false_eq_true, true_or, or_true, true_and]
    repeat' (first | exact True.intro | (refine ⟨fun hb => ?_, fun hb => ?_⟩ <;> first | (exfalso; omega; done) | exact absurd True.intro hb | ((conv => whnf); try simp only [gO, gWe, ne_eq, Nat.reduceEqDiff, not_false_eq_true, true_or, or_true, true_and])) | (refine ⟨by omega, ?_⟩; (conv => whnf); try simp only [gO, gWe, ne_eq, Nat.reduceEqDiff, not_false_eq_true, true_or, or_true, true_and]) | (refine ⟨fun hb => ?_, ?_⟩ <;> first | (exfalso; omega; done) | exact absurd True.intro hb | ((conv => whnf); try simp only [gO, gWe, ne_eq, Nat.reduceEqDiff, not_false_eq_true, true_or, or_true, true_and])) | fail)
    exact ih ρ hA2
set_option maxRecDepth 100000 in
set_option maxHeartbeats 4000000 in
theorem l_85 {D : Nat} (hD : 35 ≤ D) {L i : Int} {X : Int → Int} {μ : MU} (hL : 0 ≤ L ∧ L ≤ 3072) (i0 : 0 ≤ i) (i1 : i ≤ L - 6) (hX : ∀ i : Int, 0 ≤ i → i < L → gOk (X i)) (hA : iAll μ) (ih : ∀ ρ : MU, iAll ρ → gG g_T g_F (gCall g_T g_F D) L X (g_T 227) (fun v _ _ => v = some (gI 1)) 1085 [gN 1, gR 0, gR 61, gI i] [] g_SH ρ 599919 7298895) : gG g_T g_F (gCall g_T g_F D) L X (g_T 227) (fun v _ _ => v = some (gI 1)) 458 [gN 1, gR 0, gR 61, gI i] [] g_SH μ 599919 7298895 := by
  refine gB_gG [1085] 60 ?_
  (conv => whnf); try simp only [gO, gWe, ne_eq, Nat.reduceEqDiff, not_false_eq_true, true_or, or_true, true_and]
  repeat' (first | exact True.intro | (refine ⟨fun hb => ?_, fun hb => ?_⟩ <;> first | (exfalso; omega; done) | exact absurd True.intro hb | ((conv => whnf); try simp only [gO, gWe, ne_eq, Nat.reduceEqDiff, not_false_eq_true, true_or, or_true, true_and])) | (refine ⟨by omega, ?_⟩; (conv => whnf); try simp only [gO, gWe, ne_eq, Nat.reduceEqDiff, not_false_eq_true, true_or, or_true, true_and]) | (refine ⟨fun hb => ?_, ?_⟩ <;> first | (exfalso; omega; done) | exact absurd True.intro hb | ((conv => whnf); try simp only [gO, gWe, ne_eq, Nat.reduceEqDiff, not_false_eq_true, true_or, or_true, true_and])) | fail)
  refine' c_85 (by omega) hA _ _ (fun v ν hm => ?a) (fun v w ρ hw hA2 => ?b)
  case a =>
    (conv => whnf); try simp only [gO, gWe, ne_eq, Nat.reduceEqDiff, not_false_eq_true, true_or, or_true, true_and]
    repeat' (first | exact True.intro | (refine ⟨fun hb => ?_, fun hb => ?_⟩ <;> first | (exfalso; omega; done) | exact absurd True.intro hb | ((conv => whnf); try simp only [gO, gWe, ne_eq, Nat.reduceEqDiff, not_false_eq_true, true_or, or_true, true_and])) | (refine ⟨by omega, ?_⟩; (conv => whnf); try simp only [gO, gWe, ne_eq, Nat.reduceEqDiff, not_false_eq_true, true_or, or_true, true_and]) | (refine ⟨fun hb => ?_, ?_⟩ <;> first | (exfalso; omega; done) | exact absurd True.intro hb | ((conv => whnf); try simp only [gO, gWe, ne_eq, Nat.reduceEqDiff, not_false_eq_true, true_or, or_true, true_and])) | fail)
    exact hm
  case b =>
    subst hw
    (conv => whnf); try simp only [gO, gWe, ne_eq, Nat.reduceEqDiff, not_false_eq_true, true_or, or_true, true_and]
    repeat' (first | exact True.intro | (refine ⟨fun hb => ?_, fun hb => ?_⟩ <;> first | (exfalso; omega; done) | exact absurd True.intro hb | ((conv => whnf); try simp only [gO, gWe, ne_eq, Nat.reduceEqDiff, not_false_eq_true, true_or, or_true, true_and])) | (refine ⟨by omega, ?_⟩; (conv => whnf); try simp only [gO, gWe, ne_eq, Nat.reduceEqDiff, not_false_eq_true, true_or, or_true, true_and]) | (refine ⟨fun hb => ?_, ?_⟩ <;> first | (exfalso; omega; done) | exact absurd True.intro hb | ((conv => whnf); try simp only [gO, gWe, ne_eq, Nat.reduceEqDiff, not_false_eq_true, true_or, or_true, true_and])) | fail)
    exact ih ρ hA2
set_option maxRecDepth 100000 in
set_option maxHeartbeats 4000000 in
theorem l_86 {D : Nat} (hD : 35 ≤ D) {L i : Int} {X : Int → Int} {μ : MU} (hL : 0 ≤ L ∧ L ≤ 3072) (i0 : 0 ≤ i) (i1 : i ≤ L - 6) (hX : ∀ i : Int, 0 ≤ i → i < L → gOk (X i)) (hA : iAll μ) (ih : ∀ ρ : MU, iAll ρ → gG g_T g_F (gCall g_T g_F D) L X (g_T 227) (fun v _ _ => v = some (gI 1)) 1085 [gN 1, gR 0, gR 61, gI i] [] g_SH ρ 599919 7298895) : gG g_T g_F (gCall g_T g_F D) L X (g_T 227) (fun v _ _ => v = some (gI 1)) 481 [gN 1, gR 0, gR 61, gI i] [] g_SH μ 599919 7298895 := by
  refine gB_gG [1085] 60 ?_
  (conv => whnf); try simp only [gO, gWe, ne_eq, Nat.reduceEqDiff, not_false_eq_true, true_or, or_true, true_and]
  repeat' (first | exact True.intro | (refine ⟨fun hb => ?_, fun hb => ?_⟩ <;> first | (exfalso; omega; done) | exact absurd True.intro hb | ((conv => whnf); try simp only [gO, gWe, ne_eq, Nat.reduceEqDiff, not_false_eq_true, true_or, or_true, true_and])) | (refine ⟨by omega, ?_⟩; (conv => whnf); try simp only [gO, gWe, ne_eq, Nat.reduceEqDiff, not_false_eq_true, true_or, or_true, true_and]) | (refine ⟨fun hb => ?_, ?_⟩ <;> first | (exfalso; omega; done) | exact absurd True.intro hb | ((conv => whnf); try simp only [gO, gWe, ne_eq, Nat.reduceEqDiff, not_false_eq_true, true_or, or_true, true_and])) | fail)
  refine' c_86 (by omega) hA _ _ (fun v ν hm => ?a) (fun v w ρ hw hA2 => ?b)
  case a =>
    (conv => whnf); try simp only [gO, gWe, ne_eq, Nat.reduceEqDiff, not_false_eq_true, true_or, or_true, true_and]
    repeat' (first | exact True.intro | (refine ⟨fun hb => ?_, fun hb => ?_⟩ <;> first | (exfalso; omega; done) | exact absurd True.intro hb | ((conv => whnf); try simp only [gO, gWe, ne_eq, Nat.reduceEqDiff, not_false_eq_true, true_or, or_true, true_and])) | (refine ⟨by omega, ?_⟩; (conv => whnf); try simp only [gO, gWe, ne_eq, Nat.reduceEqDiff, not_false_eq_true, true_or, or_true, true_and]) | (refine ⟨fun hb => ?_, ?_⟩ <;> first | (exfalso; omega; done) | exact absurd True.intro hb | ((conv => whnf); try simp only [gO, gWe, ne_eq, Nat.reduceEqDiff, not_false_eq_true, true_or, or_true, true_and])) | fail)
    exact hm
  case b =>
    subst hw
    (conv => whnf); try simp only [gO, gWe, ne_eq, Nat.reduceEqDiff, not_false_eq_true, true_or, or_true, true_and]
    repeat' (first | exact True.intro | (refine ⟨fun hb => ?_, fun hb => ?_⟩ <;> first | (exfalso; omega; done) | exact absurd True.intro hb | ((conv => whnf); try simp only [gO, gWe, ne_eq, Nat.reduceEqDiff, not_false_eq_true, true_or, or_true, true_and])) | (refine ⟨by omega, ?_⟩; (conv => whnf); try simp only [gO, gWe, ne_eq, Nat.reduceEqDiff, not_false_eq_true, true_or, or_true, true_and]) | (refine ⟨fun hb => ?_, ?_⟩ <;> first | (exfalso; omega; done) | exact absurd True.intro hb | ((conv => whnf); try simp only [gO, gWe, ne_eq, Nat.reduceEqDiff, not_false_eq_true, true_or, or_true, true_and])) | fail)
    exact ih ρ hA2
set_option maxRecDepth 100000 in
set_option maxHeartbeats 4000000 in
theorem l_87 {D : Nat} (hD : 35 ≤ D) {L i : Int} {X : Int → Int} {μ : MU} (hL : 0 ≤ L ∧ L ≤ 3072) (i0 : 0 ≤ i) (i1 : i ≤ L - 6) (hX : ∀ i : Int, 0 ≤ i → i < L → gOk (X i)) (hA : iAll μ) (ih : ∀ ρ : MU, iAll ρ → gG g_T g_F (gCall g_T g_F D) L X (g_T 227) (fun v _ _ => v = some (gI 1)) 1085 [gN 1, gR 0, gR 61, gI i] [] g_SH ρ 599919 7298895) : gG g_T g_F (gCall g_T g_F D) L X (g_T 227) (fun v _ _ => v = some (gI 1)) 504 [gN 1, gR 0, gR 61, gI i] [] g_SH μ 599919 7298895 := by
  refine gB_gG [1085] 60 ?_
  (conv => whnf); try simp only [gO, gWe, ne_eq, Nat.reduceEqDiff, not_false_eq_true, true_or, or_true, true_and]
  repeat' (first | exact True.intro | (refine ⟨fun hb => ?_, fun hb => ?_⟩ <;> first | (exfalso; omega; done) | exact absurd True.intro hb | ((conv => whnf); try simp only [gO, gWe, ne_eq, Nat.reduceEqDiff, not_false_eq_true, true_or, or_true, true_and])) | (refine ⟨by omega, ?_⟩; (conv => whnf); try simp only [gO, gWe, ne_eq, Nat.reduceEqDiff, not_false_eq_true, true_or, or_true, true_and]) | (refine ⟨fun hb => ?_, ?_⟩ <;> first | (exfalso; omega; done) | exact absurd True.intro hb | ((conv => whnf); try simp only [gO, gWe, ne_eq, Nat.reduceEqDiff, not_false_eq_true, true_or, or_true, true_and])) | fail)
  refine' c_87 (by omega) hA _ _ (fun v ν hm => ?a) (fun v w ρ hw hA2 => ?b)
  case a =>
    (conv => whnf); try simp only [gO, gWe, ne_eq, Nat.reduceEqDiff, not_false_eq_true, true_or, or_true, true_and]
    repeat' (first | exact True.intro | (refine ⟨fun hb => ?_, fun hb => ?_⟩ <;> first | (exfalso; omega; done) | exact absurd True.intro hb | ((conv => whnf); try simp only [gO, gWe, ne_eq, Nat.reduceEqDiff, not_false_eq_true, true_or, or_true, true_and])) | (refine ⟨by omega, ?_⟩; (conv => whnf); try simp only [gO, gWe, ne_eq, Nat.reduceEqDiff, not_false_eq_true, true_or, or_true, true_and]) | (refine ⟨fun hb => ?_, ?_⟩ <;> first | (exfalso; omega; done) | exact absurd True.intro hb | ((conv => whnf); try simp only [gO, gWe, ne_eq, Nat.reduceEqDiff, not_false_eq_true, true_or, or_true, true_and])) | fail)
    exact hm
  case b =>
    subst hw
    (conv => whnf); try simp only [gO, gWe, ne_eq, Nat.reduceEqDiff, not_false_eq_true, true_or, or_true, true_and]
    repeat' (first | exact True.intro | (refine ⟨fun hb => ?_, fun hb => ?_⟩ <;> first | (exfalso; omega; done) | exact absurd True.intro hb | ((conv => whnf); try simp only [gO, gWe, ne_eq, Nat.reduceEqDiff, not_false_eq_true, true_or, or_true, true_and])) | (refine ⟨by omega, ?_⟩; (conv => whnf); try simp only [gO, gWe, ne_eq, Nat.reduceEqDiff, not_false_eq_true, true_or, or_true, true_and]) | (refine ⟨fun hb => ?_, ?_⟩ <;> first | (exfalso; omega; done) | exact absurd True.intro hb | ((conv => whnf); try simp only [gO, gWe, ne_eq, Nat.reduceEqDiff, not_false_eq_true, true_or, or_true, true_and])) | fail)
    exact ih ρ hA2
set_option maxRecDepth 100000 in
set_option maxHeartbeats 4000000 in
theorem l_88 {D : Nat} (hD : 35 ≤ D) {L i : Int} {X : Int → Int} {μ : MU} (hL : 0 ≤ L ∧ L ≤ 3072) (i0 : 0 ≤ i) (i1 : i ≤ L - 6) (hX : ∀ i : Int, 0 ≤ i → i < L → gOk (X i)) (hA : iAll μ) (ih : ∀ ρ : MU, iAll ρ → gG g_T g_F (gCall g_T g_F D) L X (g_T 227) (fun v _ _ => v = some (gI 1)) 1085 [gN 1, gR 0, gR 61, gI i] [] g_SH ρ 599919 7298895) : gG g_T g_F (gCall g_T g_F D) L X (g_T 227) (fun v _ _ => v = some (gI 1)) 517 [gN 1, gR 0, gR 61, gI i] [] g_SH μ 599919 7298895 := by
  refine gB_gG [1085] 60 ?_
  (conv => whnf); try simp only [gO, gWe, ne_eq, Nat.reduceEqDiff, not_false_eq_true, true_or, or_true, true_and]
  repeat' (first | exact True.intro | (refine ⟨fun hb => ?_, fun hb => ?_⟩ <;> first | (exfalso; omega; done) | exact absurd True.intro hb | ((conv => whnf); try simp only [gO, gWe, ne_eq, Nat.reduceEqDiff, not_false_eq_true, true_or, or_true, true_and])) | (refine ⟨by omega, ?_⟩; (conv => whnf); try simp only [gO, gWe, ne_eq, Nat.reduceEqDiff, not_false_eq_true, true_or, or_true, true_and]) | (refine ⟨fun hb => ?_, ?_⟩ <;> first | (exfalso; omega; done) | exact absurd True.intro hb | ((conv => whnf); try simp only [gO, gWe, ne_eq, Nat.reduceEqDiff, not_false_eq_true, true_or, or_true, true_and])) | fail)
  refine' c_88 (by omega) hA _ _ (fun v ν hm => ?a) (fun v w ρ hw hA2 => ?b)
  case a =>
    (conv => whnf); try simp only [gO, gWe, ne_eq, Nat.reduceEqDiff, not_false_eq_true, true_or, or_true, true_and]
    repeat' (first | exact True.intro | (refine ⟨fun hb => ?_, fun hb => ?_⟩ <;> first | (exfalso; omega; done) | exact absurd True.intro hb | ((conv => whnf); try simp only [gO, gWe, ne_eq, Nat.reduceEqDiff, not_false_eq_true, true_or, or_true, true_and])) | (refine ⟨by omega, ?_⟩; (conv => whnf); try simp only [gO, gWe, ne_eq, Nat.reduceEqDiff, not_false_eq_true, true_or, or_true, true_and]) | (refine ⟨fun hb => ?_, ?_⟩ <;> first | (exfalso; omega; done) | exact absurd True.intro hb | ((conv => whnf); try simp only [gO, gWe, ne_eq, Nat.reduceEqDiff, not_false_eq_true, true_or, or_true, true_and])) | fail)
    exact hm
  case b =>
    subst hw
    (conv => whnf); try simp only [gO, gWe, ne_eq, Nat.reduceEqDiff, not_false_eq_true, true_or, or_true, true_and]
    repeat' (first | exact True.intro | (refine ⟨fun hb => ?_, fun hb => ?_⟩ <;> first | (exfalso; omega; done) | exact absurd True.intro hb | ((conv => whnf); try simp only [gO, gWe, ne_eq, Nat.reduceEqDiff, not_false_eq_true, true_or, or_true, true_and])) | (refine ⟨by omega, ?_⟩; (conv => whnf); try simp only [gO, gWe, ne_eq, Nat.reduceEqDiff, not_false_eq_true, true_or, or_true, true_and]) | (refine ⟨fun hb => ?_, ?_⟩ <;> first | (exfalso; omega; done) | exact absurd True.intro hb | ((conv => whnf); try simp only [gO, gWe, ne_eq, Nat.reduceEqDiff, not_false_eq_true, true_or, or_true, true_and])) | fail)
    exact ih ρ hA2
set_option maxRecDepth 100000 in
set_option maxHeartbeats 4000000 in
theorem l_89 {D : Nat} (hD : 35 ≤ D) {L i : Int} {X : Int → Int} {μ : MU} (hL : 0 ≤ L ∧ L ≤ 3072) (i0 : 0 ≤ i) (i1 : i ≤ L - 6) (hX : ∀ i : Int, 0 ≤ i → i < L → gOk (X i)) (hA : iAll μ) (ih : ∀ ρ : MU, iAll ρ → gG g_T g_F (gCall g_T g_F D) L X (g_T 227) (fun v _ _ => v = some (gI 1)) 1085 [gN 1, gR 0, gR 61, gI i] [] g_SH ρ 599919 7298895) : gG g_T g_F (gCall g_T g_F D) L X (g_T 227) (fun v _ _ => v = some (gI 1)) 530 [gN 1, gR 0, gR 61, gI i] [] g_SH μ 599919 7298895 := by
  refine gB_gG [1085] 60 ?_
  (conv => whnf); try simp only [gO, gWe, ne_eq, Nat.reduceEqDiff, not_false_eq_true, true_or, or_true, true_and]
  repeat' (first | exact True.intro | (refine ⟨fun hb => ?_, fun hb => ?_⟩ <;> first | (exfalso; omega; done) | exact absurd True.intro hb | ((conv => whnf); try simp only [gO, gWe, ne_eq, Nat.reduceEqDiff, not_false_eq_true, true_or, or_true, true_and])) | (refine ⟨by omega, ?_⟩; (conv => whnf); try simp only [gO, gWe, ne_eq, Nat.reduceEqDiff, not_false_eq_true, true_or, or_true, true_and]) | (refine ⟨fun hb => ?_, ?_⟩ <;> first | (exfalso; omega; done) | exact absurd True.intro hb | ((conv => whnf); try simp only [gO, gWe, ne_eq, Nat.reduceEqDiff, not_false_eq_true, true_or, or_true, true_and])) | fail)
  refine' c_89 (by omega) hA _ _ (fun v ν hm => ?a) (fun v w ρ hw hA2 => ?b)
  case a =>
    (conv => whnf); try simp only [gO, gWe, ne_eq, Nat.reduceEqDiff, not_false_eq_true, true_or, or_true, true_and]
    repeat' (first | exact True.intro | (refine ⟨fun hb => ?_, fun hb => ?_⟩ <;> first | (exfalso; omega; done) | exact absurd True.intro hb | ((conv => whnf); try simp only [gO, gWe, ne_eq, Nat.reduceEqDiff, not_false_eq_true, true_or, or_true, true_and])) | (refine ⟨by omega, ?_⟩; (conv => whnf); try simp only [gO, gWe, ne_eq, Nat.reduceEqDiff, not_false_eq_true, true_or, or_true, true_and]) | (refine ⟨fun hb => ?_, ?_⟩ <;> first | (exfalso; omega; done) | exact absurd True.intro hb | ((conv => whnf); try simp only [gO, gWe, ne_eq, Nat.reduceEqDiff, not_false_eq_true, true_or, or_true, true_and])) | fail)
    exact hm
  case b =>
    subst hw
    (conv => whnf); try simp only [gO, gWe, ne_eq, Nat.reduceEqDiff, not_false_eq_true, true_or, or_true, true_and]
    repeat' (first | exact True.intro | (refine ⟨fun hb => ?_, fun hb => ?_⟩ <;> first | (exfalso; omega; done) | exact absurd True.intro hb | ((conv => whnf); try simp only [gO, gWe, ne_eq, Nat.reduceEqDiff, not_false_eq_true, true_or, or_true, true_and])) | (refine ⟨by omega, ?_⟩; (conv => whnf); try simp only [gO, gWe, ne_eq, Nat.reduceEqDiff, not_false_eq_true, true_or, or_true, true_and]) | (refine ⟨fun hb => ?_, ?_⟩ <;> first | (exfalso; omega; done) | exact absurd True.intro hb | ((conv => whnf); try simp only [gO, gWe, ne_eq, Nat.reduceEqDiff, not_false_eq_true, true_or, or_true, true_and])) | fail)
    exact ih ρ hA2
set_option maxRecDepth 100000 in
set_option maxHeartbeats 4000000 in
theorem l_90 {D : Nat} (hD : 35 ≤ D) {L i : Int} {X : Int → Int} {μ : MU} (hL : 0 ≤ L ∧ L ≤ 3072) (i0 : 0 ≤ i) (i1 : i ≤ L - 6) (hX : ∀ i : Int, 0 ≤ i → i < L → gOk (X i)) (hA : iAll μ) (ih : ∀ ρ : MU, iAll ρ → gG g_T g_F (gCall g_T g_F D) L X (g_T 227) (fun v _ _ => v = some (gI 1)) 1085 [gN 1, gR 0, gR 61, gI i] [] g_SH ρ 599919 7298895) : gG g_T g_F (gCall g_T g_F D) L X (g_T 227) (fun v _ _ => v = some (gI 1)) 543 [gN 1, gR 0, gR 61, gI i] [] g_SH μ 599919 7298895 := by
  refine gB_gG [1085] 60 ?_
  (conv => whnf); try simp only [gO, gWe, ne_eq, Nat.reduceEqDiff, not_false_eq_true, true_or, or_true, true_and]
  repeat' (first | exact True.intro | (refine ⟨fun hb => ?_, fun hb => ?_⟩ <;> first | (exfalso; omega; done) | exact absurd True.intro hb | ((conv => whnf); try simp only [gO, gWe, ne_eq, Nat.reduceEqDiff, not_false_eq_true, true_or, or_true, true_and])) | (refine ⟨by omega, ?_⟩; (conv => whnf); try simp only [gO, gWe, ne_eq, Nat.reduceEqDiff, not_false_eq_true, true_or, or_true, true_and]) | (refine ⟨fun hb => ?_, ?_⟩ <;> first | (exfalso; omega; done) | exact absurd True.intro hb | ((conv => whnf); try simp only [gO, gWe, ne_eq, Nat.reduceEqDiff, not_false_eq_true, true_or, or_true, true_and])) | fail)
  refine' c_90 (by omega) hA _ _ (fun v ν hm => ?a) (fun v w ρ hw hA2 => ?b)
  case a =>
    (conv => whnf); try simp only [gO, gWe, ne_eq, Nat.reduceEqDiff, not_false_eq_true, true_or, or_true, true_and]
    repeat' (first | exact True.intro | (refine ⟨fun hb => ?_, fun hb => ?_⟩ <;> first | (exfalso; omega; done) | exact absurd True.intro hb | ((conv => whnf); try simp only [gO, gWe, ne_eq, Nat.reduceEqDiff, not_false_eq_true, true_or, or_true, true_and])) | (refine ⟨by omega, ?_⟩; (conv => whnf); try simp only [gO, gWe, ne_eq, Nat.reduceEqDiff, not_false_eq_true, true_or, or_true, true_and]) | (refine ⟨fun hb => ?_, ?_⟩ <;> first | (exfalso; omega; done) | exact absurd True.intro hb | ((conv => whnf); try simp only [gO, gWe, ne_eq, Nat.reduceEqDiff, not_false_eq_true, true_or, or_true, true_and])) | fail)
    exact hm
  case b =>
    subst hw
    (conv => whnf); try simp only [gO, gWe, ne_eq, Nat.reduceEqDiff, not_false_eq_true, true_or, or_true, true_and]
    repeat' (first | exact True.intro | (refine ⟨fun hb => ?_, fun hb => ?_⟩ <;> first | (exfalso; omega; done) | exact absurd True.intro hb | ((conv => whnf); try simp only [gO, gWe, ne_eq, Nat.reduceEqDiff, not_false_eq_true, true_or, or_true, true_and])) | (refine ⟨by omega, ?_⟩; (conv => whnf); try simp only [gO, gWe, ne_eq, Nat.reduceEqDiff, not_false_eq_true, true_or, or_true, true_and]) | (refine ⟨fun hb => ?_, ?_⟩ <;> first | (exfalso; omega; done) | exact absurd True.intro hb | ((conv => whnf); try simp only [gO, gWe, ne_eq, Nat.reduceEqDiff, not_false_eq_true, true_or, or_true, true_and])) | fail)
    exact ih ρ hA2
set_option maxRecDepth 100000 in
set_option maxHeartbeats 4000000 in
theorem l_91 {D : Nat} (hD : 35 ≤ D) {L i : Int} {X : Int → Int} {μ : MU} (hL : 0 ≤ L ∧ L ≤ 3072) (i0 : 0 ≤ i) (i1 : i ≤ L - 6) (hX : ∀ i : Int, 0 ≤ i → i < L → gOk (X i)) (hA : iAll μ) (ih : ∀ ρ : MU, iAll ρ → gG g_T g_F (gCall g_T g_F D) L X (g_T 227) (fun v _ _ => v = some (gI 1)) 1085 [gN 1, gR 0, gR 61, gI i] [] g_SH ρ 599919 7298895) : gG g_T g_F (gCall g_T g_F D) L X (g_T 227) (fun v _ _ => v = some (gI 1)) 566 [gN 1, gR 0, gR 61, gI i] [] g_SH μ 599919 7298895 := by
  refine gB_gG [1085] 60 ?_
  (conv => whnf); try simp only [gO, gWe, ne_eq, Nat.reduceEqDiff, not_false_eq_true, true_or, or_true, true_and]
  repeat' (first | exact True.intro | (refine ⟨fun hb => ?_, fun hb => ?_⟩ <;> first | (exfalso; omega; done) | exact absurd True.intro hb | ((conv => whnf); try simp only [gO, gWe, ne_eq, Nat.reduceEqDiff, not_false_eq_true, true_or, or_true, true_and])) | (refine ⟨by omega, ?_⟩; (conv => whnf); try simp only [gO, gWe, ne_eq, Nat.reduceEqDiff, not_false_eq_true, true_or, or_true, true_and]) | (refine ⟨fun hb => ?_, ?_⟩ <;> first | (exfalso; omega; done) | exact absurd True.intro hb | ((conv => whnf); try simp only [gO, gWe, ne_eq, Nat.reduceEqDiff, not_false_eq_true, true_or, or_true, true_and])) | fail)
  refine' c_91 (by omega) hA _ _ (fun v ν hm => ?a) (fun v w ρ hw hA2 => ?b)
  case a =>
    (conv => whnf); try simp only [gO, gWe, ne_eq, Nat.reduceEqDiff, not_false_eq_true, true_or, or_true, true_and]
    repeat' (first | exact True.intro | (refine ⟨fun hb => ?_, fun hb => ?_⟩ <;> first | (exfalso; omega; done) | exact absurd True.intro hb | ((conv => whnf); try simp only [gO, gWe, ne_eq, Nat.reduceEqDiff, not_false_eq_true, true_or, or_true, true_and])) | (refine ⟨by omega, ?_⟩; (conv => whnf); try simp only [gO, gWe, ne_eq, Nat.reduceEqDiff, not_false_eq_true, true_or, or_true, true_and]) | (refine ⟨fun hb => ?_, ?_⟩ <;> first | (exfalso; omega; done) | exact absurd True.intro hb | ((conv => whnf); try simp only [gO, gWe, ne_eq, Nat.reduceEqDiff, not_false_eq_true, true_or, or_true, true_and])) | fail)
    exact hm
  case b =>
    subst hw
    (conv => whnf); try simp only [gO, gWe, ne_eq, Nat.reduceEqDiff, not_false_eq_true, true_or, or_true, true_and]
    repeat' (first | exact True.intro | (refine ⟨fun hb => ?_, fun hb => ?_⟩ <;> first | (exfalso; omega; done) | exact absurd True.intro hb | ((conv => whnf); try simp only [gO, gWe, ne_eq, Nat.reduceEqDiff, not_false_eq_true, true_or, or_true, true_and])) | (refine ⟨by omega, ?_⟩; (conv => whnf); try simp only [gO, gWe, ne_eq, Nat.reduceEqDiff, not_false_eq_true, true_or, or_true, true_and]) | (refine ⟨fun hb => ?_, ?_⟩ <;> first | (exfalso; omega; done) | exact absurd True.intro hb | ((conv => whnf); try simp only [gO, gWe, ne_eq, Nat.reduceEqDiff, not_false_eq_true, true_or, or_true, true_and])) | fail)
    exact ih ρ hA2
set_option maxRecDepth 100000 in
set_option maxHeartbeats 4000000 in
theorem l_92 {D : Nat} (hD : 35 ≤ D) {L i : Int} {X : Int → Int} {μ : MU} (hL : 0 ≤ L ∧ L ≤ 3072) (i0 : 0 ≤ i) (i1 : i ≤ L - 6) (hX : ∀ i : Int, 0 ≤ i → i < L → gOk (X i)) (hA : iAll μ) (ih : ∀ ρ : MU, iAll ρ → gG g_T g_F (gCall g_T g_F D) L X (g_T 227) (fun v _ _ => v = some (gI 1)) 1085 [gN 1, gR 0, gR 61, gI i] [] g_SH ρ 599919 7298895) : gG g_T g_F (gCall g_T g_F D) L X (g_T 227) (fun v _ _ => v = some (gI 1)) 599 [gN 1, gR 0, gR 61, gI i] [] g_SH μ 599919 7298895 := by
  refine gB_gG [1085] 60 ?_
  (conv => whnf); try simp only [gO, gWe, ne_eq, Nat.reduceEqDiff, not_false_eq_true, true_or, or_true, true_and]
  repeat' (first | exact True.intro | (refine ⟨fun hb => ?_, fun hb => ?_⟩ <;> first | (exfalso; omega; done) | exact absurd True.intro hb | ((conv => whnf); try simp only [gO, gWe, ne_eq, Nat.reduceEqDiff, not_false_eq_true, true_or, or_true, true_and])) | (refine ⟨by omega, ?_⟩; (conv => whnf); try simp only [gO, gWe, ne_eq, Nat.reduceEqDiff, not_false_eq_true, true_or, or_true, true_and]) | (refine ⟨fun hb => ?_, ?_⟩ <;> first | (exfalso; omega; done) | exact absurd True.intro hb | ((conv => whnf); try simp only [gO, gWe, ne_eq, Nat.reduceEqDiff, not_false_eq_true, true_or, or_true, true_and])) | fail)
  refine' c_92 (by omega) hA (hX (i + 1) (by omega) (by omega)) _ _ (fun v ν hm => ?a) (fun v w ρ hw hA2 => ?b)
  case a =>
    (conv => whnf); try simp only [gO, gWe, ne_eq, Nat.reduceEqDiff, not_false_eq_true, true_or, or_true, true_and]
    repeat' (first | exact True.intro | (refine ⟨fun hb => ?_, fun hb => ?_⟩ <;> first | (exfalso; omega; done) | exact absurd True.intro hb | ((conv => whnf); try simp only [gO, gWe, ne_eq, Nat.reduceEqDiff, not_false_eq_true, true_or, or_true, true_and])) | (refine ⟨by omega, ?_⟩; (conv => whnf); try simp only [gO, gWe, ne_eq, Nat.reduceEqDiff, not_false_eq_true, true_or, or_true, true_and]) | (refine ⟨fun hb => ?_, ?_⟩ <;> first | (exfalso; omega; done) | exact absurd True.intro hb | ((conv => whnf); try simp only [gO, gWe, ne_eq, Nat.reduceEqDiff, not_false_eq_true, true_or, or_true, true_and])) | fail)
    exact hm
  case b =>
    subst hw
    (conv => whnf); try simp only [gO, gWe, ne_eq, Nat.reduceEqDiff, not_false_eq_true, true_or, or_true, true_and]
    repeat' (first | exact True.intro | (refine ⟨fun hb => ?_, fun hb => ?_⟩ <;> first | (exfalso; omega; done) | exact absurd True.intro hb | ((conv => whnf); try simp only [gO, gWe, ne_eq, Nat.reduceEqDiff, not_false_eq_true, true_or, or_true, true_and])) | (refine ⟨by omega, ?_⟩; (conv => whnf); try simp only [gO, gWe, ne_eq, Nat.reduceEqDiff, not_false_eq_true, true_or, or_true, true_and]) | (refine ⟨fun hb => ?_, ?_⟩ <;> first | (exfalso; omega; done) | exact absurd True.intro hb | ((conv => whnf); try simp only [gO, gWe, ne_eq, Nat.reduceEqDiff, not_false_eq_true, true_or, or_true, true_and])) | fail)
    exact ih ρ hA2
set_option maxRecDepth 100000 in
set_option maxHeartbeats 4000000 in
theorem l_93 {D : Nat} (hD : 35 ≤ D) {L i : Int} {X : Int → Int} {μ : MU} (hL : 0 ≤ L ∧ L ≤ 3072) (i0 : 0 ≤ i) (i1 : i ≤ L - 6) (hX : ∀ i : Int, 0 ≤ i → i < L → gOk (X i)) (hA : iAll μ) (ih : ∀ ρ : MU, iAll ρ → gG g_T g_F (gCall g_T g_F D) L X (g_T 227) (fun v _ _ => v = some (gI 1)) 1085 [gN 1, gR 0, gR 61, gI i] [] g_SH ρ 599919 7298895) : gG g_T g_F (gCall g_T g_F D) L X (g_T 227) (fun v _ _ => v = some (gI 1)) 622 [gN 1, gR 0, gR 61, gI i] [] g_SH μ 599919 7298895 := by
  refine gB_gG [1085] 60 ?_
  (conv => whnf); try simp only [gO, gWe, ne_eq, Nat.reduceEqDiff, not_false_eq_true, true_or, or_true, true_and]
  repeat' (first | exact True.intro | (refine ⟨fun hb => ?_, fun hb => ?_⟩ <;> first | (exfalso; omega; done) | exact absurd True.intro hb | ((conv => whnf); try simp only [gO, gWe, ne_eq, Nat.reduceEqDiff, not_false_eq_true, true_or, or_true, true_and])) | (refine ⟨by omega, ?_⟩; (conv => whnf); try simp only [gO, gWe, ne_eq, Nat.reduceEqDiff, not_false_eq_true, true_or, or_true, true_and]) | (refine ⟨fun hb => ?_, ?_⟩ <;> first | (exfalso; omega; done) | exact absurd True.intro hb | ((conv => whnf); try simp only [gO, gWe, ne_eq, Nat.reduceEqDiff, not_false_eq_true, true_or, or_true, true_and])) | fail)
  refine' c_93 (by omega) hA _ _ (fun v ν hm => ?a) (fun v w ρ hw hA2 => ?b)
  case a =>
    (conv => whnf); try simp only [gO, gWe, ne_eq, Nat.reduceEqDiff, not_false_eq_true, true_or, or_true, true_and]
    repeat' (first | exact True.intro | (refine ⟨fun hb => ?_, fun hb => ?_⟩ <;> first | (exfalso; omega; done) | exact absurd True.intro hb | ((conv => whnf); try simp only [gO, gWe, ne_eq, Nat.reduceEqDiff, not_false_eq_true, true_or, or_true, true_and])) | (refine ⟨by omega, ?_⟩; (conv => whnf); try simp only [gO, gWe, ne_eq, Nat.reduceEqDiff, not_false_eq_true, true_or, or_true, true_and]) | (refine ⟨fun hb => ?_, ?_⟩ <;> first | (exfalso; omega; done) | exact absurd True.intro hb | ((conv => whnf); try simp only [gO, gWe, ne_eq, Nat.reduceEqDiff, not_false_eq_true, true_or, or_true, true_and])) | fail)
    exact hm
  case b =>
    subst hw
    (conv => whnf); try simp only [gO, gWe, ne_eq, Nat.reduceEqDiff, not_false_eq_true, true_or, or_true, true_and]
    repeat' (first | exact True.intro | (refine ⟨fun hb => ?_, fun hb => ?_⟩ <;> first | (exfalso; omega; done) | exact absurd True.intro hb | ((conv => whnf); try simp only [gO, gWe, ne_eq, Nat.reduceEqDiff, not_false_eq_true, true_or, or_true, true_and])) | (refine ⟨by omega, ?_⟩; (conv => whnf); try simp only [gO, gWe, ne_eq, Nat.reduceEqDiff, not_false_eq_true, true_or, or_true, true_and]) | (refine ⟨fun hb => ?_, ?_⟩ <;> first | (exfalso; omega; done) | exact absurd True.intro hb | ((conv => whnf); try simp only [gO, gWe, ne_eq, Nat.reduceEqDiff, not_false_eq_true, true_or, or_true, true_and])) | fail)
    exact ih ρ hA2
set_option maxRecDepth 100000 in
set_option maxHeartbeats 4000000 in
theorem l_94 {D : Nat} (hD : 35 ≤ D) {L i : Int} {X : Int → Int} {μ : MU} (hL : 0 ≤ L ∧ L ≤ 3072) (i0 : 0 ≤ i) (i1 : i ≤ L - 6) (hX : ∀ i : Int, 0 ≤ i → i < L → gOk (X i)) (hA : iAll μ) (ih : ∀ ρ : MU, iAll ρ → gG g_T g_F (gCall g_T g_F D) L X (g_T 227) (fun v _ _ => v = some (gI 1)) 1085 [gN 1, gR 0, gR 61, gI i] [] g_SH ρ 599919 7298895) : gG g_T g_F (gCall g_T g_F D) L X (g_T 227) (fun v _ _ => v = some (gI 1)) 645 [gN 1, gR 0, gR 61, gI i] [] g_SH μ 599919 7298895 := by
  refine gB_gG [1085] 60 ?_
  (conv => whnf); try simp only [gO, gWe, ne_eq, Nat.reduceEqDiff, not_false_eq_true, true_or, or_true, true_and]
  repeat' (first | exact True.intro | (refine ⟨fun hb => ?_, fun hb => ?_⟩ <;> first | (exfalso; omega; done) | exact absurd True.intro hb | ((conv => whnf); try simp only [gO, gWe, ne_eq, Nat.reduceEqDiff, not_false_eq_true, true_or, or_true, true_and])) | (refine ⟨by omega, ?_⟩; (conv => whnf); try simp only [gO, gWe, ne_eq, Nat.reduceEqDiff, not_false_eq_true, true_or, or_true, true_and]) | (refine ⟨fun hb => ?_, ?_⟩ <;> first | (exfalso; omega; done) | exact absurd True.intro hb | ((conv => whnf); try simp only [gO, gWe, ne_eq, Nat.reduceEqDiff, not_false_eq_true, true_or, or_true, true_and])) | fail)
  refine' c_94 (by omega) hA _ _ (fun v ν hm => ?a) (fun v w ρ hw hA2 => ?b)
  case a =>
    (conv => whnf); try simp only [gO, gWe, ne_eq, Nat.reduceEqDiff, not_false_eq_true, true_or, or_true, true_and]
    repeat' (first | exact True.intro | (refine ⟨fun hb => ?_, fun hb => ?_⟩ <;> first | (exfalso; omega; done) | exact absurd True.intro hb | ((conv => whnf); try simp only [gO, gWe, ne_eq, Nat.reduceEqDiff, not_false_eq_true, true_or, or_true, true_and])) | (refine ⟨by omega, ?_⟩; (conv => whnf); try simp only [gO, gWe, ne_eq, Nat.reduceEqDiff, not_false_eq_true, true_or, or_true, true_and]) | (refine ⟨fun hb => ?_, ?_⟩ <;> first | (exfalso; omega; done) | exact absurd True.intro hb | ((conv => whnf); try simp only [gO, gWe, ne_eq, Nat.reduceEqDiff, not_false_eq_true, true_or, or_true, true_and])) | fail)
    exact hm
  case b =>
    subst hw
    (conv => whnf); try simp only [gO, gWe, ne_eq, Nat.reduceEqDiff, not_false_eq_true, true_or, or_true, true_and]
    repeat' (first | exact True.intro | (refine ⟨fun hb => ?_, fun hb => ?_⟩ <;> first | (exfalso; omega; done) | exact absurd True.intro hb | ((conv => whnf); try simp only [gO, gWe, ne_eq, Nat.reduceEqDiff, not_false_eq_true, true_or, or_true, true_and])) | (refine ⟨by omega, ?_⟩; (conv => whnf); try simp only [gO, gWe, ne_eq, Nat.reduceEqDiff, not_false_eq_true, true_or, or_true, true_and]) | (refine ⟨fun hb => ?_, ?_⟩ <;> first | (exfalso; omega; done) | exact absurd True.intro hb | ((conv => whnf); try simp only [gO, gWe, ne_eq, Nat.reduceEqDiff, not_false_eq_true, true_or, or_true, true_and])) | fail)
    exact ih ρ hA2
set_option maxRecDepth 100000 in
set_option maxHeartbeats 4000000 in
theorem l_95 {D : Nat} (hD : 35 ≤ D) {L i : Int} {X : Int → Int} {μ : MU} (hL : 0 ≤ L ∧ L ≤ 3072) (i0 : 0 ≤ i) (i1 : i ≤ L - 6) (hX : ∀ i : Int, 0 ≤ i → i < L → gOk (X i)) (hA : iAll μ) (ih : ∀ ρ : MU, iAll ρ → gG g_T g_F (gCall g_T g_F D) L X (g_T 227) (fun v _ _ => v = some (gI 1)) 1085 [gN 1, gR 0, gR 61, gI i] [] g_SH ρ 599919 7298895) : gG g_T g_F (gCall g_T g_F D) L X (g_T 227) (fun v _ _ => v = some (gI 1)) 658 [gN 1, gR 0, gR 61, gI i] [] g_SH μ 599919 7298895 := by
  refine gB_gG [1085] 60 ?_
  (conv => whnf); try simp only [gO, gWe, ne_eq, Nat.reduceEqDiff, not_false_eq_true, true_or, or_true, true_and]
  repeat' (first | exact True.intro | (refine ⟨fun hb => ?_, fun hb => ?_⟩ <;> first | (exfalso; omega; done) | exact absurd True.intro hb | ((conv => whnf); try simp only [gO, gWe, ne_eq, Nat.reduceEqDiff, not_false_eq_true, true_or, or_true, true_and])) | (refine ⟨by omega, ?_⟩; (conv => whnf); try simp only [gO, gWe, ne_eq, Nat.reduceEqDiff, not_false_eq_true, true_or, or_true, true_and]) | (refine ⟨fun hb => ?_, ?_⟩ <;> first | (exfalso; omega; done) | exact absurd True.intro hb | ((conv => whnf); try simp only [gO, gWe, ne_eq, Nat.reduceEqDiff, not_false_eq_true, true_or, or_true, true_and])) | fail)
  refine' c_95 (by omega) hA _ _ (fun v ν hm => ?a) (fun v w ρ hw hA2 => ?b)
  case a =>
    (conv => whnf); try simp only [gO, gWe, ne_eq, Nat.reduceEqDiff, not_false_eq_true, true_or, or_true, true_and]
    repeat' (first | exact True.intro | (refine ⟨fun hb => ?_, fun hb => ?_⟩ <;> first | (exfalso; omega; done) | exact absurd True.intro hb | ((conv => whnf); try simp only [gO, gWe, ne_eq, Nat.reduceEqDiff, not_false_eq_true, true_or, or_true, true_and])) | (refine ⟨by omega, ?_⟩; (conv => whnf); try simp only [gO, gWe, ne_eq, Nat.reduceEqDiff, not_false_eq_true, true_or, or_true, true_and]) | (refine ⟨fun hb => ?_, ?_⟩ <;> first | (exfalso; omega; done) | exact absurd True.intro hb | ((conv => whnf); try simp only [gO, gWe, ne_eq, Nat.reduceEqDiff, not_false_eq_true, true_or, or_true, true_and])) | fail)
    exact hm
  case b =>
    subst hw
    (conv => whnf); try simp only [gO, gWe, ne_eq, Nat.reduceEqDiff, not_false_eq_true, true_or, or_true, true_and]
    repeat' (first | exact True.intro | (refine ⟨fun hb => ?_, fun hb => ?_⟩ <;> first | (exfalso; omega; done) | exact absurd True.intro hb | ((conv => whnf); try simp only [gO, gWe, ne_eq, Nat.reduceEqDiff, not_false_eq_true, true_or, or_true, true_and])) | (refine ⟨by omega, ?_⟩; (conv => whnf); try simp only [gO, gWe, ne_eq, Nat.reduceEqDiff, not_false_eq_true, true_or, or_true, true_and]) | (refine ⟨fun hb => ?_, ?_⟩ <;> first | (exfalso; omega; done) | exact absurd True.intro hb | ((conv => whnf); try simp only [gO, gWe, ne_eq, Nat.reduceEqDiff, not_false_eq_true, true_or, or_true, true_and])) | fail)
    exact ih ρ hA2
set_option maxRecDepth 100000 in
set_option maxHeartbeats 4000000 in
theorem l_96 {D : Nat} (hD : 35 ≤ D) {L i : Int} {X : Int → Int} {μ : MU} (hL : 0 ≤ L ∧ L ≤ 3072) (i0 : 0 ≤ i) (i1 : i ≤ L - 6) (hX : ∀ i : Int, 0 ≤ i → i < L → gOk (X i)) (hA : iAll μ) (ih : ∀ ρ : MU, iAll ρ → gG g_T g_F (gCall g_T g_F D) L X (g_T 227) (fun v _ _ => v = some (gI 1)) 1085 [gN 1, gR 0, gR 61, gI i] [] g_SH ρ 599919 7298895) : gG g_T g_F (gCall g_T g_F D) L X (g_T 227) (fun v _ _ => v = some (gI 1)) 691 [gN 1, gR 0, gR 61, gI i] [] g_SH μ 599919 7298895 := by
  refine gB_gG [1085] 60 ?_
  (conv => whnf); try simp only [gO, gWe, ne_eq, Nat.reduceEqDiff, not_false_eq_true, true_or, or_true, true_and]
  repeat' (first | exact True.intro | (refine ⟨fun hb => ?_, fun hb => ?_⟩ <;> first | (exfalso; omega; done) | exact absurd True.intro hb | ((conv => whnf); try simp only [gO, gWe, ne_eq, Nat.reduceEqDiff, not_false_eq_true, true_or, or_true, true_and])) | (refine ⟨by omega, ?_⟩; (conv => whnf); try simp only [gO, gWe, ne_eq, Nat.reduceEqDiff, not_false_eq_true, true_or, or_true, true_and]) | (refine ⟨fun hb => ?_, ?_⟩ <;> first | (exfalso; omega; done) | exact absurd True.intro hb | ((conv => whnf); try simp only [gO, gWe, ne_eq, Nat.reduceEqDiff, not_false_eq_true, true_or, or_true, true_and])) | fail)
  · refine' c_96 (by omega) hA (Or.inl rfl) _ _ (fun v ν hm => ?a) (fun v w ρ hw hA2 => ?b)
    case a =>
      (conv => whnf); try simp only [gO, gWe, ne_eq, Nat.reduceEqDiff, not_false_eq_true, true_or, or_true, true_and]
      repeat' (first | exact True.intro | (refine ⟨fun hb => ?_, fun hb => ?_⟩ <;> first | (exfalso; omega; done) | exact absurd True.intro hb | ((conv => whnf); try simp only [gO, gWe, ne_eq, Nat.reduceEqDiff, not_false_eq_true, true_or, or_true, true_and])) | (refine ⟨by omega, ?_⟩; (conv => whnf); try simp only [gO, gWe, ne_eq, Nat.reduceEqDiff, not_false_eq_true, true_or, or_true, true_and]) | (refine ⟨fun hb => ?_, ?_⟩ <;> first | (exfalso; omega; done) | exact absurd True.intro hb | ((conv => whnf); try simp only [gO, gWe, ne_eq, Nat.reduceEqDiff, not_false_eq_true, true_or, or_true, true_and])) | fail)
      exact hm
    case b =>
      subst hw
      (conv => whnf); try simp only [gO, gWe, ne_eq, Nat.reduceEqDiff, not_false_eq_true, true_or, or_true, true_and]
      repeat' (first | exact True.intro | (refine ⟨fun hb => ?_, fun hb => ?_⟩ <;> first | (exfalso; omega; done) | exact absurd True.intro hb | ((conv => whnf); try simp only [gO, gWe, ne_eq, Nat.reduceEqDiff, not_false_eq_true, true_or, or_true, true_and])) | (refine ⟨by omega, ?_⟩; (conv => whnf); try simp only [gO, gWe, ne_eq, Nat.reduceEqDiff, not_false_eq_true, true_or, or_true, true_and]) | (refine ⟨fun hb => ?_, ?_⟩ <;> first | (exfalso; omega; done) | exact absurd True.intro hb | ((conv => whnf); try simp only [gO, gWe, ne_eq, Nat.reduceEqDiff, not_false_eq_true, true_or, or_true, true_and])) | fail)
      exact ih ρ hA2
  · refine' c_96 (by omega) hA (Or.inr rfl) _ _ (fun v ν hm => ?a) (fun v w ρ hw hA2 => ?b)
    case a =>
      (conv => whnf); try simp only [gO, gWe, ne_eq, Nat.reduceEqDiff, not_false_eq_true, true_or, or_true, true_and]
      repeat' (first | exact True.intro | (refine ⟨fun hb => ?_, fun hb => ?_⟩ <;> first | (exfalso; omega; done) | exact absurd True.intro hb | ((conv => whnf); try simp only [gO, gWe, ne_eq, Nat.reduceEqDiff, not_false_eq_true, true_or, or_true, true_and])) | (refine ⟨by omega, ?_⟩; (conv => whnf); try simp only [gO, gWe, ne_eq, Nat.reduceEqDiff, not_false_eq_true, true_or, or_true, true_and]) | (refine ⟨fun hb => ?_, ?_⟩ <;> first | (exfalso; omega; done) | exact absurd True.intro hb | ((conv => whnf); try simp only [gO, gWe, ne_eq, Nat.reduceEqDiff, not_false_eq_true, true_or, or_true, true_and])) | fail)
      exact hm
    case b =>
      subst hw
      (conv => whnf); try simp only [gO, gWe, ne_eq, Nat.reduceEqDiff, not_false_eq_true, true_or, or_true, true_and]
      repeat' (first | exact True.intro | (refine ⟨fun hb => ?_, fun hb => ?_⟩ <;> first | (exfalso; omega; done) | exact absurd True.intro hb | ((conv => whnf); try simp only [gO, gWe, ne_eq, Nat.reduceEqDiff, not_false_eq_true, true_or, or_true, true_and])) | (refine ⟨by omega, ?_⟩; (conv => whnf); try simp only [gO, gWe, ne_eq, Nat.reduceEqDiff, not_false_eq_true, true_or, or_true, true_and]) | (refine ⟨fun hb => ?_, ?_⟩ <;> first | (exfalso; omega; done) | exact absurd True.intro hb | ((conv => whnf); try simp only [gO, gWe, ne_eq, Nat.reduceEqDiff, not_false_eq_true, true_or, or_true, true_and])) | fail)
      exact ih ρ hA2
set_option maxRecDepth 100000 in
set_option maxHeartbeats 4000000 in
theorem l_97 {D : Nat} (hD : 35 ≤ D) {L i : Int} {X : Int → Int} {μ : MU} (hL : 0 ≤ L ∧ L ≤ 3072) (i0 : 0 ≤ i) (i1 : i ≤ L - 6) (hX : ∀ i : Int, 0 ≤ i → i < L → gOk (X i)) (hA : iAll μ) (ih : ∀ ρ : MU, iAll ρ → gG g_T g_F (gCall g_T g_F D) L X (g_T 227) (fun v _ _ => v = some (gI 1)) 1085 [gN 1, gR 0, gR 61, gI i] [] g_SH ρ 599919 7298895) : gG g_T g_F (gCall g_T g_F D) L X (g_T 227) (fun v _ _ => v = some (gI 1)) 730 [gN 1, gR 0, gR 61, gI i] [] g_SH μ 599919 7298895 := by
  refine gB_gG [1085] 60 ?_
  (conv => whnf); try simp only [gO, gWe, ne_eq, Nat.reduceEqDiff, not_false_eq_true, true_or, or_true, true_and]
  repeat' (first | exact True.intro | (refine ⟨fun hb => ?_, fun hb => ?_⟩ <;> first | (exfalso; omega; done) | exact absurd True.intro hb | ((conv => whnf); try simp only [gO, gWe, ne_eq, Nat.reduceEqDiff, not_false_eq_true, true_or, or_true, true_and])) | (refine ⟨by omega, ?_⟩; (conv => whnf); try simp only [gO, gWe, ne_eq, Nat.reduceEqDiff, not_false_eq_true, true_or, or_true, true_and]) | (refine ⟨fun hb => ?_, ?_⟩ <;> first | (exfalso; omega; done) | exact absurd True.intro hb | ((conv => whnf); try simp only [gO, gWe, ne_eq, Nat.reduceEqDiff, not_false_eq_true, true_or, or_true, true_and])) | fail)
  refine' c_97 (by omega) hA (hX (i + 1) (by omega) (by omega)) _ _ (fun v ν hm => ?a) (fun v w ρ hw hA2 => ?b)
  case a =>
    (conv => whnf); try simp only [gO, gWe, ne_eq, Nat.reduceEqDiff, not_false_eq_true, true_or, or_true, true_and]
    repeat' (first | exact True.intro | (refine ⟨fun hb => ?_, fun hb => ?_⟩ <;> first | (exfalso; omega; done) | exact absurd True.intro hb | ((conv => whnf); try simp only [gO, gWe, ne_eq, Nat.reduceEqDiff, not_false_eq_true, true_or, or_true, true_and])) | (refine ⟨by omega, ?_⟩; (conv => whnf); try simp only [gO, gWe, ne_eq, Nat.reduceEqDiff, not_false_eq_true, true_or, or_true, true_and]) | (refine ⟨fun hb => ?_, ?_⟩ <;> first | (exfalso; omega; done) | exact absurd True.intro hb | ((conv => whnf); try simp only [gO, gWe, ne_eq, Nat.reduceEqDiff, not_false_eq_true, true_or, or_true, true_and])) | fail)
    exact hm
  case b =>
    subst hw
    (conv => whnf); try simp only [gO, gWe, ne_eq, Nat.reduceEqDiff, not_false_eq_true, true_or, or_true, true_and]
    repeat' (first | exact True.intro | (refine ⟨fun hb => ?_, fun hb => ?_⟩ <;> first | (exfalso; omega; done) | exact absurd True.intro hb | ((conv => whnf); try simp only [gO, gWe, ne_eq, Nat.reduceEqDiff, not_false_eq_true, true_or, or_true, true_and])) | (refine ⟨by omega, ?_⟩; (conv => whnf); try simp only [gO, gWe, ne_eq, Nat.reduceEqDiff, not_false_eq_true, true_or, or_true, true_and]) | (refine ⟨fun hb => ?_, ?_⟩ <;> first | (exfalso; omega; done) | exact absurd True.intro hb | ((conv => whnf); try simp only [gO, gWe, ne_eq, Nat.reduceEqDiff, not_false_eq_true, true_or, or_true, true_and])) | fail)
    exact ih ρ hA2
set_option maxRecDepth 100000 in
set_option maxHeartbeats 4000000 in
theorem l_98 {D : Nat} (hD : 35 ≤ D) {L i : Int} {X : Int → Int} {μ : MU} (hL : 0 ≤ L ∧ L ≤ 3072) (i0 : 0 ≤ i) (i1 : i ≤ L - 6) (hX : ∀ i : Int, 0 ≤ i → i < L → gOk (X i)) (hA : iAll μ) (ih : ∀ ρ : MU, iAll ρ → gG g_T g_F (gCall g_T g_F D) L X (g_T 227) (fun v _ _ => v = some (gI 1)) 1085 [gN 1, gR 0, gR 61, gI i] [] g_SH ρ 599919 7298895) : gG g_T g_F (gCall g_T g_F D) L X (g_T 227) (fun v _ _ => v = some (gI 1)) 753 [gN 1, gR 0, gR 61, gI i] [] g_SH μ 599919 7298895 := by
  refine gB_gG [1085] 60 ?_
  (conv => whnf); try simp only [gO, gWe, ne_eq, Nat.reduceEqDiff, not_false_eq_true, true_or, or_true, true_and]
  repeat' (first | exact True.intro | (refine ⟨fun hb => ?_, fun hb => ?_⟩ <;> first | (exfalso; omega; done) | exact absurd True.intro hb | ((conv => whnf); try simp only [gO, gWe, ne_eq, Nat.reduceEqDiff, not_false_eq_true, true_or, or_true, true_and])) | (refine ⟨by omega, ?_⟩; (conv => whnf); try simp only [gO, gWe, ne_eq, Nat.reduceEqDiff, not_false_eq_true, true_or, or_true, true_and]) | (refine ⟨fun hb => ?_, ?_⟩ <;> first | (exfalso; omega; done) | exact absurd True.intro hb | ((conv => whnf); try simp only [gO, gWe, ne_eq, Nat.reduceEqDiff, not_false_eq_true, true_or, or_true, true_and])) | fail)
  refine' c_98 (by omega) hA _ _ (fun v ν hm => ?a) (fun v w ρ hw hA2 => ?b)
  case a =>
    (conv => whnf); try simp only [gO, gWe, ne_eq, Nat.reduceEqDiff, not_false_eq_true, true_or, or_true, true_and]
    repeat' (first | exact True.intro | (refine ⟨fun hb => ?_, fun hb => ?_⟩ <;> first | (exfalso; omega; done) | exact absurd True.intro hb | ((conv => whnf); try simp only [gO, gWe, ne_eq, Nat.reduceEqDiff, not_false_eq_true, true_or, or_true, true_and])) | (refine ⟨by omega, ?_⟩; (conv => whnf); try simp only [gO, gWe, ne_eq, Nat.reduceEqDiff, not_false_eq_true, true_or, or_true, true_and]) | (refine ⟨fun hb => ?_, ?_⟩ <;> first | (exfalso; omega; done) | exact absurd True.intro hb | ((conv => whnf); try simp only [gO, gWe, ne_eq, Nat.reduceEqDiff, not_false_eq_true, true_or, or_true, true_and])) | fail)
    exact hm
  case b =>
    subst hw
    (conv => whnf); try simp only [gO, gWe, ne_eq, Nat.reduceEqDiff, not_false_eq_true, true_or, or_true, true_and]
    repeat' (first | exact True.intro | (refine ⟨fun hb => ?_, fun hb => ?_⟩ <;> first | (exfalso; omega; done) | exact absurd True.intro hb | ((conv => whnf); try simp only [gO, gWe, ne_eq, Nat.reduceEqDiff, not_false_eq_true, true_or, or_true, true_and])) | (refine ⟨by omega, ?_⟩; (conv => whnf); try simp only [gO, gWe, ne_eq, Nat.reduceEqDiff, not_false_eq_true, true_or, or_true, true_and]) | (refine ⟨fun hb => ?_, ?_⟩ <;> first | (exfalso; omega; done) | exact absurd True.intro hb | ((conv => whnf); try simp only [gO, gWe, ne_eq, Nat.reduceEqDiff, not_false_eq_true, true_or, or_true, true_and])) | fail)
    exact ih ρ hA2
set_option maxRecDepth 100000 in
set_option maxHeartbeats 4000000 in
theorem l_99 {D : Nat} (hD : 35 ≤ D) {L i : Int} {X : Int → Int} {μ : MU} (hL : 0 ≤ L ∧ L ≤ 3072) (i0 : 0 ≤ i) (i1 : i ≤ L - 6) (hX : ∀ i : Int, 0 ≤ i → i < L → gOk (X i)) (hA : iAll μ) (ih : ∀ ρ : MU, iAll ρ → gG g_T g_F (gCall g_T g_F D) L X (g_T 227) (fun v _ _ => v = some (gI 1)) 1085 [gN 1, gR 0, gR 61, gI i] [] g_SH ρ 599919 7298895) : gG g_T g_F (gCall g_T g_F D) L X (g_T 227) (fun v _ _ => v = some (gI 1)) 766 [gN 1, gR 0, gR 61, gI i] [] g_SH μ 599919 7298895 := by
  refine gB_gG [1085] 60 ?_
  (conv => whnf); try simp only [gO, gWe, ne_eq, Nat.reduceEqDiff, not_false_eq_true, true_or, or_true, true_and]
  repeat' (first | exact True.intro | (refine ⟨fun hb => ?_, fun hb => ?_⟩ <;> first | (exfalso; omega; done) | exact absurd True.intro hb | ((conv => whnf); try simp only [gO, gWe, ne_eq, Nat.reduceEqDiff, not_false_eq_true, true_or, or_true, true_and])) | (refine ⟨by omega, ?_⟩; (conv => whnf); try simp only [gO, gWe, ne_eq, Nat.reduceEqDiff, not_false_eq_true, true_or, or_true, true_and]) | (refine ⟨fun hb => ?_, ?_⟩ <;> first | (exfalso; omega; done) | exact absurd True.intro hb | ((conv => whnf); try simp only [gO, gWe, ne_eq, Nat.reduceEqDiff, not_false_eq_true, true_or, or_true, true_and])) | fail)
  refine' c_99 (by omega) hA _ _ (fun v ν hm => ?a) (fun v w ρ hw hA2 => ?b)
  case a =>
    (conv => whnf); try simp only [gO, gWe, ne_eq, Nat.reduceEqDiff, not_false_eq_true, true_or, or_true, true_and]
    repeat' (first | exact True.intro | (refine ⟨fun hb => ?_, fun hb => ?_⟩ <;> first | (exfalso; omega; done) | exact absurd True.intro hb | ((conv => whnf); try simp only [gO, gWe, ne_eq, Nat.reduceEqDiff, not_false_eq_true, true_or, or_true, true_and])) | (refine ⟨by omega, ?_⟩; (conv => whnf); try simp only [gO, gWe, ne_eq, Nat.reduceEqDiff, not_false_eq_true, true_or, or_true, true_and]) | (refine ⟨fun hb => ?_, ?_⟩ <;> first | (exfalso; omega; done) | exact absurd True.intro hb | ((conv => whnf); try simp only [gO, gWe, ne_eq, Nat.reduceEqDiff, not_false_eq_true, true_or, or_true, true_and])) | fail)
    exact hm
  case b =>
    subst hw
    (conv => whnf); try simp only [gO, gWe, ne_eq, Nat.reduceEqDiff, not_false_eq_true, true_or, or_true, true_and]
    repeat' (first | exact True.intro | (refine ⟨fun hb => ?_, fun hb => ?_⟩ <;> first | (exfalso; omega; done) | exact absurd True.intro hb | ((conv => whnf); try simp only [gO, gWe, ne_eq, Nat.reduceEqDiff, not_false_eq_true, true_or, or_true, true_and])) | (refine ⟨by omega, ?_⟩; (conv => whnf); try simp only [gO, gWe, ne_eq, Nat.reduceEqDiff, not_false_eq_true, true_or, or_true, true_and]) | (refine ⟨fun hb => ?_, ?_⟩ <;> first | (exfalso; omega; done) | exact absurd True.intro hb | ((conv => whnf); try simp only [gO, gWe, ne_eq, Nat.reduceEqDiff, not_false_eq_true, true_or, or_true, true_and])) | fail)
    exact ih ρ hA2
set_option maxRecDepth 100000 in
set_option maxHeartbeats 4000000 in
theorem l_100 {D : Nat} (hD : 35 ≤ D) {L i : Int} {X : Int → Int} {μ : MU} (hL : 0 ≤ L ∧ L ≤ 3072) (i0 : 0 ≤ i) (i1 : i ≤ L - 6) (hX : ∀ i : Int, 0 ≤ i → i < L → gOk (X i)) (hA : iAll μ) (ih : ∀ ρ : MU, iAll ρ → gG g_T g_F (gCall g_T g_F D) L X (g_T 227) (fun v _ _ => v = some (gI 1)) 1085 [gN 1, gR 0, gR 61, gI i] [] g_SH ρ 599919 7298895) : gG g_T g_F (gCall g_T g_F D) L X (g_T 227) (fun v _ _ => v = some (gI 1)) 789 [gN 1, gR 0, gR 61, gI i] [] g_SH μ 599919 7298895 := by
  refine gB_gG [1085] 60 ?_
  (conv => whnf); try simp only [gO, gWe, ne_eq, Nat.reduceEqDiff, not_false_eq_true, true_or, or_true, true_and]
  repeat' (first | exact True.intro | (refine ⟨fun hb => ?_, fun hb => ?_⟩ <;> first | (exfalso; omega; done) | exact absurd True.intro hb | ((conv => whnf); try simp only [gO, gWe, ne_eq, Nat.reduceEqDiff, not_false_eq_true, true_or, or_true, true_and])) | (refine ⟨by omega, ?_⟩; (conv => whnf); try simp only [gO, gWe, ne_eq, Nat.reduceEqDiff, not_false_eq_true, true_or, or_true, true_and]) | (refine ⟨fun hb => ?_, ?_⟩ <;> first | (exfalso; omega; done) | exact absurd True.intro hb | ((conv => whnf); try simp only [gO, gWe, ne_eq, Nat.reduceEqDiff, not_false_eq_true, true_or, or_true, true_and])) | fail)
  refine' c_100 (by omega) hA _ _ (fun v ν hm => ?a) (fun v w ρ hw hA2 => ?b)
  case a =>
    (conv => whnf); try simp only [gO, gWe, ne_eq, Nat.reduceEqDiff, not_false_eq_true, true_or, or_true, true_and]
    repeat' (first | exact True.intro | (refine ⟨fun hb => ?_, fun hb => ?_⟩ <;> first | (exfalso; omega; done) | exact absurd True.intro hb | ((conv => whnf); try simp only [gO, gWe, ne_eq, Nat.reduceEqDiff, not_false_eq_true, true_or, or_true, true_and])) | (refine ⟨by omega, ?_⟩; (conv => whnf); try simp only [gO, gWe, ne_eq, Nat.reduceEqDiff, not_false_eq_true, true_or, or_true, true_and]) | (refine ⟨fun hb => ?_, ?_⟩ <;> first | (exfalso; omega; done) | exact absurd True.intro hb | ((conv => whnf); try simp only [gO, gWe, ne_eq, Nat.reduceEqDiff, not_false_eq_true, true_or, or_true, true_and])) | fail)
    exact hm
  case b =>
    subst hw
    (conv => whnf); try simp only [gO, gWe, ne_eq, Nat.reduceEqDiff, not_false_eq_true, true_or, or_true, true_and]
    repeat' (first | exact True.intro | (refine ⟨fun hb => ?_, fun hb => ?_⟩ <;> first | (exfalso; omega; done) | exact absurd True.intro hb | ((conv => whnf); try simp only [gO, gWe, ne_eq, Nat.reduceEqDiff, not_false_eq_true, true_or, or_true, true_and])) | (refine ⟨by omega, ?_⟩; (conv => whnf); try simp only [gO, gWe, ne_eq, Nat.reduceEqDiff, not_false_eq_true, true_or, or_true, true_and]) | (refine ⟨fun hb => ?_, ?_⟩ <;> first | (exfalso; omega; done) | exact absurd True.intro hb | ((conv => whnf); try simp only [gO, gWe, ne_eq, Nat.reduceEqDiff, not_false_eq_true, true_or, or_true, true_and])) | fail)
    exact ih ρ hA2
set_option maxRecDepth 100000 in
set_option maxHeartbeats 4000000 in
theorem l_101 {D : Nat} (hD : 35 ≤ D) {L i : Int} {X : Int → Int} {μ : MU} (hL : 0 ≤ L ∧ L ≤ 3072) (i0 : 0 ≤ i) (i1 : i ≤ L - 6) (hX : ∀ i : Int, 0 ≤ i → i < L → gOk (X i)) (hA : iAll μ) (ih : ∀ ρ : MU, iAll ρ → gG g_T g_F (gCall g_T g_F D) L X (g_T 227) (fun v _ _ => v = some (gI 1)) 1085 [gN 1, gR 0, gR 61, gI i] [] g_SH ρ 599919 7298895) : gG g_T g_F (gCall g_T g_F D) L X (g_T 227) (fun v _ _ => v = some (gI 1)) 822 [gN 1, gR 0, gR 61, gI i] [] g_SH μ 599919 7298895 := by
  refine gB_gG [1085] 60 ?_
  (conv => whnf); try simp only [gO, gWe, ne_eq, Nat.reduceEqDiff, not_false_eq_true, true_or, or_true, true_and]
  repeat' (first | exact True.intro | (refine ⟨fun hb => ?_, fun hb => ?_⟩ <;> first | (exfalso; omega; done) | exact absurd True.intro hb | ((conv => whnf); try simp only [gO, gWe, ne_eq, Nat.reduceEqDiff, not_false_eq_true, true_or, or_true, true_and])) | (refine ⟨by omega, ?_⟩; (conv => whnf); try simp only [gO, gWe, ne_eq, Nat.reduceEqDiff, not_false_eq_true, true_or, or_true, true_and]) | (refine ⟨fun hb => ?_, ?_⟩ <;> first | (exfalso; omega; done) | exact absurd True.intro hb | ((conv => whnf); try simp only [gO, gWe, ne_eq, Nat.reduceEqDiff, not_false_eq_true, true_or, or_true, true_and])) | fail)
  refine' c_101 (by omega) hA _ _ (fun v ν hm => ?a) (fun v w ρ hw hA2 => ?b)
  case a =>
    (conv => whnf); try simp only [gO, gWe, ne_eq, Nat.reduceEqDiff, not_false_eq_true, true_or, or_true, true_and]
    repeat' (first | exact True.intro | (refine ⟨fun hb => ?_, fun hb => ?_⟩ <;> first | (exfalso; omega; done) | exact absurd True.intro hb | ((conv => whnf); try simp only [gO, gWe, ne_eq, Nat.reduceEqDiff, not_false_eq_true, true_or, or_true, true_and])) | (refine ⟨by omega, ?_⟩; (conv => whnf); try simp only [gO, gWe, ne_eq, Nat.reduceEqDiff, not_false_eq_true, true_or, or_true, true_and]) | (refine ⟨fun hb => ?_, ?_⟩ <;> first | (exfalso; omega; done) | exact absurd True.intro hb | ((conv => whnf); try simp only [gO, gWe, ne_eq, Nat.reduceEqDiff, not_false_eq_true, true_or, or_true, true_and])) | fail)
    exact hm
  case b =>
    subst hw
    (conv => whnf); try simp only [gO, gWe, ne_eq, Nat.reduceEqDiff, not_false_eq_true, true_or, or_true, true_and]
    repeat' (first | exact True.intro | (refine ⟨fun hb => ?_, fun hb => ?_⟩ <;> first | (exfalso; omega; done) | exact absurd True.intro hb | ((conv => whnf); try simp only [gO, gWe, ne_eq, Nat.reduceEqDiff, not_false_eq_true, true_or, or_true, true_and])) | (refine ⟨by omega, ?_⟩; (conv => whnf); try simp only [gO, gWe, ne_eq, Nat.reduceEqDiff, not_false_eq_true, true_or, or_true, true_and]) | (refine ⟨fun hb => ?_, ?_⟩ <;> first | (exfalso; omega; done) | exact absurd True.intro hb | ((conv => whnf); try simp only [gO, gWe, ne_eq, Nat.reduceEqDiff, not_false_eq_true, true_or, or_true, true_and])) | fail)
    exact ih ρ hA2
set_option maxRecDepth 100000 in
set_option maxHeartbeats 4000000 in
theorem l_102 {D : Nat} (hD : 35 ≤ D) {L i : Int} {X : Int → Int} {μ : MU} (hL : 0 ≤ L ∧ L ≤ 3072) (i0 : 0 ≤ i) (i1 : i ≤ L - 6) (hX : ∀ i : Int, 0 ≤ i → i < L → gOk (X i)) (hA : iAll μ) (ih : ∀ ρ : MU, iAll ρ → gG g_T g_F (gCall g_T g_F D) L X (g_T 227) (fun v _ _ => v = some (gI 1)) 1085 [gN 1, gR 0, gR 61, gI i] [] g_SH ρ 599919 7298895) : gG g_T g_F (gCall g_T g_F D) L X (g_T 227) (fun v _ _ => v = some (gI 1)) 835 [gN 1, gR 0, gR 61, gI i] [] g_SH μ 599919 7298895 := by
  refine gB_gG [1085] 60 ?_
  (conv => whnf); try simp only [gO, gWe, ne_eq, Nat.reduceEqDiff, not_false_eq_true, true_or, or_true, true_and]
  repeat' (first | exact True.intro | (refine ⟨fun hb => ?_, fun hb => ?_⟩ <;> first | (exfalso; omega; done) | exact absurd True.intro hb | ((conv => whnf); try simp only [gO, gWe, ne_eq, Nat.reduceEqDiff, not_false_eq_true, true_or, or_true, true_and])) | (refine ⟨by omega, ?_⟩; (conv => whnf); try simp only [gO, gWe, ne_eq, Nat.reduceEqDiff, not_false_eq_true, true_or, or_true, true_and]) | (refine ⟨fun hb => ?_, ?_⟩ <;> first | (exfalso; omega; done) | exact absurd True.intro hb | ((conv => whnf); try simp only [gO, gWe, ne_eq, Nat.reduceEqDiff, not_false_eq_true, true_or, or_true, true_and])) | fail)
  refine' c_102 (by omega) hA (hX (i + 1) (by omega) (by omega)) _ _ (fun v ν hm => ?a) (fun v w ρ hw hA2 => ?b)
  case a =>
    (conv => whnf); try simp only [gO, gWe, ne_eq, Nat.reduceEqDiff, not_false_eq_true, true_or, or_true, true_and]
    repeat' (first | exact True.intro | (refine ⟨fun hb => ?_, fun hb => ?_⟩ <;> first | (exfalso; omega; done) | exact absurd True.intro hb | ((conv => whnf); try simp only [gO, gWe, ne_eq, Nat.reduceEqDiff, not_false_eq_true, true_or, or_true, true_and])) | (refine ⟨by omega, ?_⟩; (conv => whnf); try simp only [gO, gWe, ne_eq, Nat.reduceEqDiff, not_false_eq_true, true_or, or_true, true_and]) | (refine ⟨fun hb => ?_, ?_⟩ <;> first | (exfalso; omega; done) | exact absurd True.intro hb | ((conv => whnf); try simp only [gO, gWe, ne_eq, Nat.reduceEqDiff, not_false_eq_true, true_or, or_true, true_and])) | fail)
    exact hm
  case b =>
    subst hw
    (conv => whnf); try simp only [gO, gWe, ne_eq, Nat.reduceEqDiff, not_false_eq_true, true_or, or_true, true_and]
    repeat' (first | exact True.intro | (refine ⟨fun hb => ?_, fun hb => ?_⟩ <;> first | (exfalso; omega; done) | exact absurd True.intro hb | ((conv => whnf); try simp only [gO, gWe, ne_eq, Nat.reduceEqDiff, not_false_eq_true, true_or, or_true, true_and])) | (refine ⟨by omega, ?_⟩; (conv => whnf); try simp only [gO, gWe, ne_eq, Nat.reduceEqDiff, not_false_eq_true, true_or, or_true, true_and]) | (refine ⟨fun hb => ?_, ?_⟩ <;> first | (exfalso; omega; done) | exact absurd True.intro hb | ((conv => whnf); try simp only [gO, gWe, ne_eq, Nat.reduceEqDiff, not_false_eq_true, true_or, or_true, true_and])) | fail)
    exact ih ρ hA2
set_option maxRecDepth 100000 in
set_option maxHeartbeats 4000000 in
theorem l_103 {D : Nat} (hD : 35 ≤ D) {L i : Int} {X : Int → Int} {μ : MU} (hL : 0 ≤ L ∧ L ≤ 3072) (i0 : 0 ≤ i) (i1 : i ≤ L - 6) (hX : ∀ i : Int, 0 ≤ i → i < L → gOk (X i)) (hA : iAll μ) (ih : ∀ ρ : MU, iAll ρ → gG g_T g_F (gCall g_T g_F D) L X (g_T 227) (fun v _ _ => v = some (gI 1)) 1085 [gN 1, gR 0, gR 61, gI i] [] g_SH ρ 599919 7298895) : gG g_T g_F (gCall g_T g_F D) L X (g_T 227) (fun v _ _ => v = some (gI 1)) 858 [gN 1, gR 0, gR 61, gI i] [] g_SH μ 599919 7298895 := by
  refine gB_gG [1085] 60 ?_
  (conv => whnf); try simp only [gO, gWe, ne_eq, Nat.reduceEqDiff, not_false_eq_true, true_or, or_true, true_and]
  repeat' (first | exact True.intro | (refine ⟨fun hb => ?_, fun hb => ?_⟩ <;> first | (exfalso; omega; done) | exact absurd True.intro hb | ((conv => whnf); try simp only [gO, gWe, ne_eq, Nat.reduceEqDiff, not_false_eq_true, true_or, or_true, true_and])) | (refine ⟨by omega, ?_⟩; (conv => whnf); try simp only [gO, gWe, ne_eq, Nat.reduceEqDiff, not_false_eq_true, true_or, or_true, true_and]) | (refine ⟨fun hb => ?_, ?_⟩ <;> first | (exfalso; omega; done) | exact absurd True.intro hb | ((conv => whnf); try simp only [gO, gWe, ne_eq, Nat.reduceEqDiff, not_false_eq_true, true_or, or_true, true_and])) | fail)
  refine' c_103 (by omega) hA _ _ (fun v ν hm => ?a) (fun v w ρ hw hA2 => ?b)
  case a =>
    (conv => whnf); try simp only [gO, gWe, ne_eq, Nat.reduceEqDiff, not_false_eq_true, true_or, or_true, true_and]
    repeat' (first | exact True.intro | (refine ⟨fun hb => ?_, fun hb => ?_⟩ <;> first | (exfalso; omega; done) | exact absurd True.intro hb | ((conv => whnf); try simp only [gO, gWe, ne_eq, Nat.reduceEqDiff, not_false_eq_true, true_or, or_true, true_and])) | (refine ⟨by omega, ?_⟩; (conv => whnf); try simp only [gO, gWe, ne_eq, Nat.reduceEqDiff, not_false_eq_true, true_or, or_true, true_and]) | (refine ⟨fun hb => ?_, ?_⟩ <;> first | (exfalso; omega; done) | exact absurd True.intro hb | ((conv => whnf); try simp only [gO, gWe, ne_eq, Nat.reduceEqDiff, not_false_eq_true, true_or, or_true, true_and])) | fail)
    exact hm
  case b =>
    subst hw
    (conv => whnf); try simp only [gO, gWe, ne_eq, Nat.reduceEqDiff, not_false_eq_true, true_or, or_true, true_and]
    repeat' (first | exact True.intro | (refine ⟨fun hb => ?_, fun hb => ?_⟩ <;> first | (exfalso; omega; done) | exact absurd True.intro hb | ((conv => whnf); try simp only [gO, gWe, ne_eq, Nat.reduceEqDiff, not_false_eq_true, true_or, or_true, true_and])) | (refine ⟨by omega, ?_⟩; (conv => whnf); try simp only [gO, gWe, ne_eq, Nat.reduceEqDiff, not_false_eq_true, true_or, or_true, true_and]) | (refine ⟨fun hb => ?_, ?_⟩ <;> first | (exfalso; omega; done) | exact absurd True.intro hb | ((conv => whnf); try simp only [gO, gWe, ne_eq, Nat.reduceEqDiff, not_false_eq_true, true_or, or_true, true_and])) | fail)
    exact ih ρ hA2
set_option maxRecDepth 100000 in
set_option maxHeartbeats 4000000 in
theorem l_104 {D : Nat} (hD : 35 ≤ D) {L i : Int} {X : Int → Int} {μ : MU} (hL : 0 ≤ L ∧ L ≤ 3072) (i0 : 0 ≤ i) (i1 : i ≤ L - 6) (hX : ∀ i : Int, 0 ≤ i → i < L → gOk (X i)) (hA : iAll μ) (ih : ∀ ρ : MU, iAll ρ → gG g_T g_F (gCall g_T g_F D) L X (g_T 227) (fun v _ _ => v = some (gI 1)) 1085 [gN 1, gR 0, gR 61, gI i] [] g_SH ρ 599919 7298895) : gG g_T g_F (gCall g_T g_F D) L X (g_T 227) (fun v _ _ => v = some (gI 1)) 871 [gN 1, gR 0, gR 61, gI i] [] g_SH μ 599919 7298895 := by
  refine gB_gG [1085] 60 ?_
  (conv => whnf); try simp only [gO, gWe, ne_eq, Nat.reduceEqDiff, not_false_eq_true, true_or, or_true, true_and]
  repeat' (first | exact True.intro | (refine ⟨fun hb => ?_, fun hb => ?_⟩ <;> first | (exfalso; omega; done) | exact absurd True.intro hb | ((conv => whnf); try simp only [gO, gWe, ne_eq, Nat.reduceEqDiff, not_false_eq_true, true_or, or_true, true_and])) | (refine ⟨by omega, ?_⟩; (conv => whnf); try simp only [gO, gWe, ne_eq, Nat.reduceEqDiff, not_false_eq_true, true_or, or_true, true_and]) | (refine ⟨fun hb => ?_, ?_⟩ <;> first | (exfalso; omega; done) | exact absurd True.intro hb | ((conv => whnf); try simp only [gO, gWe, ne_eq, Nat.reduceEqDiff, not_false_eq_true, true_or, or_true, true_and])) | fail)
  refine' c_104 (by omega) hA _ _ (fun v ν hm => ?a) (fun v w ρ hw hA2 => ?b)
  case a =>
    (conv => whnf); try simp only [gO, gWe, ne_eq, Nat.reduceEqDiff, not_false_eq_true, true_or, or_true, true_and]
    repeat' (first | exact True.intro | (refine ⟨fun hb => ?_, fun hb => ?_⟩ <;> first | (exfalso; omega; done) | exact absurd True.intro hb | ((conv => whnf); try simp only [gO, gWe, ne_eq, Nat.reduceEqDiff, not_false_eq_true, true_or, or_true, true_and])) | (refine ⟨by omega, ?_⟩; (conv => whnf); try simp only [gO, gWe, ne_eq, Nat.reduceEqDiff, not_false_eq_true, true_or, or_true, true_and]) | (refine ⟨fun hb => ?_, ?_⟩ <;> first | (exfalso; omega; done) | exact absurd True.intro hb | ((conv => whnf); try simp only [gO, gWe, ne_eq, Nat.reduceEqDiff, not_false_eq_true, true_or, or_true, true_and])) | fail)
    exact hm
  case b =>
    subst hw
    (conv => whnf); try simp only [gO, gWe, ne_eq, Nat.reduceEqDiff, not_false_eq_true, true_or, or_true, true_and]
    repeat' (first | exact True.intro | (refine ⟨fun hb => ?_, fun hb => ?_⟩ <;> first | (exfalso; omega; done) | exact absurd True.intro hb | ((conv => whnf); try simp only [gO, gWe, ne_eq, Nat.reduceEqDiff, not_false_eq_true, true_or, or_true, true_and])) | (refine ⟨by omega, ?_⟩; (conv => whnf); try simp only [gO, gWe, ne_eq, Nat.reduceEqDiff, not_false_eq_true, true_or, or_true, true_and]) | (refine ⟨fun hb => ?_, ?_⟩ <;> first | (exfalso; omega; done) | exact absurd True.intro hb | ((conv => whnf); try simp only [gO, gWe, ne_eq, Nat.reduceEqDiff, not_false_eq_true, true_or, or_true, true_and])) | fail)
    exact ih ρ hA2
set_option maxRecDepth 100000 in
set_option maxHeartbeats 4000000 in
theorem l_105 {D : Nat} (hD : 35 ≤ D) {L i : Int} {X : Int → Int} {μ : MU} (hL : 0 ≤ L ∧ L ≤ 3072) (i0 : 0 ≤ i) (i1 : i ≤ L - 6) (hX : ∀ i : Int, 0 ≤ i → i < L → gOk (X i)) (hA : iAll μ) (ih : ∀ ρ : MU, iAll ρ → gG g_T g_F (gCall g_T g_F D) L X (g_T 227) (fun v _ _ => v = some (gI 1)) 1085 [gN 1, gR 0, gR 61, gI i] [] g_SH ρ 599919 7298895) : gG g_T g_F (gCall g_T g_F D) L X (g_T 227) (fun v _ _ => v = some (gI 1)) 884 [gN 1, gR 0, gR 61, gI i] [] g_SH μ 599919 7298895 := by
  refine gB_gG [1085] 60 ?_
  (conv => whnf); try simp only [gO, gWe, ne_eq, Nat.reduceEqDiff, not_false_eq_true, true_or, or_true, true_and]
  repeat' (first | exact True.intro | (refine ⟨fun hb => ?_, fun hb => ?_⟩ <;> first | (exfalso; omega; done) | exact absurd True.intro hb | ((conv => whnf); try simp only [gO, gWe, ne_eq, Nat.reduceEqDiff, not_false_eq_true, true_or, or_true, true_and])) | (refine ⟨by omega, ?_⟩; (conv => whnf); try simp only [gO, gWe, ne_eq, Nat.reduceEqDiff, not_false_eq_true, true_or, or_true, true_and]) | (refine ⟨fun hb => ?_, ?_⟩ <;> first | (exfalso; omega; done) | exact absurd True.intro hb | ((conv => whnf); try simp only [gO, gWe, ne_eq, Nat.reduceEqDiff, not_false_eq_true, true_or, or_true, true_and])) | fail)
  refine' c_105 (by omega) hA _ _ (fun v ν hm => ?a) (fun v w ρ hw hA2 => ?b)
  case a =>
    (conv => whnf); try simp only [gO, gWe, ne_eq, Nat.reduceEqDiff, not_false_eq_true, true_or, or_true, true_and]
    repeat' (first | exact True.intro | (refine ⟨fun hb => ?_, fun hb => ?_⟩ <;> first | (exfalso; omega; done) | exact absurd True.intro hb | ((conv => whnf); try simp only [gO, gWe, ne_eq, Nat.reduceEqDiff, not_false_eq_true, true_or, or_true, true_and])) | (refine ⟨by omega, ?_⟩; (conv => whnf); try simp only [gO, gWe, ne_eq, Nat.reduceEqDiff, not_false_eq_true, true_or, or_true, true_and]) | (refine ⟨fun hb => ?_, ?_⟩ <;> first | (exfalso; omega; done) | exact absurd True.intro hb | ((conv => whnf); try simp only [gO, gWe, ne_eq, Nat.reduceEqDiff, not_false_eq_true, true_or, or_true, true_and])) | fail)
    exact hm
  case b =>
    subst hw
    (conv => whnf); try simp only [gO, gWe, ne_eq, Nat.reduceEqDiff, not_false_eq_true, true_or, or_true, true_and]
    repeat' (first | exact True.intro | (refine ⟨fun hb => ?_, fun hb => ?_⟩ <;> first | (exfalso; omega; done) | exact absurd True.intro hb | ((conv => whnf); try simp only [gO, gWe, ne_eq, Nat.reduceEqDiff, not_false_eq_true, true_or, or_true, true_and])) | (refine ⟨by omega, ?_⟩; (conv => whnf); try simp only [gO, gWe, ne_eq, Nat.reduceEqDiff, not_false_eq_true, true_or, or_true, true_and]) | (refine ⟨fun hb => ?_, ?_⟩ <;> first | (exfalso; omega; done) | exact absurd True.intro hb | ((conv => whnf); try simp only [gO, gWe, ne_eq, Nat.reduceEqDiff, not_false_eq_true, true_or, or_true, true_and])) | fail)
    exact ih ρ hA2
set_option maxRecDepth 100000 in
set_option maxHeartbeats 4000000 in
theorem l_106 {D : Nat} (hD : 35 ≤ D) {L i : Int} {X : Int → Int} {μ : MU} (hL : 0 ≤ L ∧ L ≤ 3072) (i0 : 0 ≤ i) (i1 : i ≤ L - 6) (hX : ∀ i : Int, 0 ≤ i → i < L → gOk (X i)) (hA : iAll μ) (ih : ∀ ρ : MU, iAll ρ → gG g_T g_F (gCall g_T g_F D) L X (g_T 227) (fun v _ _ => v = some (gI 1)) 1085 [gN 1, gR 0, gR 61, gI i] [] g_SH ρ 599919 7298895) : gG g_T g_F (gCall g_T g_F D) L X (g_T 227) (fun v _ _ => v = some (gI 1)) 907 [gN 1, gR 0, gR 61, gI i] [] g_SH μ 599919 7298895 := by
  refine gB_gG [1085] 60 ?_
  (conv => whnf); try simp only [gO, gWe, ne_eq, Nat.reduceEqDiff, not_false_eq_true, true_or, or_true, true_and]
  repeat' (first | exact True.intro | (refine ⟨fun hb => ?_, fun hb => ?_⟩ <;> first | (exfalso; omega; done) | exact absurd True.intro hb | ((conv => whnf); try simp only [gO, gWe, ne_eq, Nat.reduceEqDiff, not_false_eq_true, true_or, or_true, true_and])) | (refine ⟨by omega, ?_⟩; (conv => whnf); try simp only [gO, gWe, ne_eq, Nat.reduceEqDiff, not_false_eq_true, true_or, or_true, true_and]) | (refine ⟨fun hb => ?_, ?_⟩ <;> first | (exfalso; omega; done) | exact absurd True.intro hb | ((conv => whnf); try simp only [gO, gWe, ne_eq, Nat.reduceEqDiff, not_false_eq_true, true_or, or_true, true_and])) | fail)
  refine' c_106 (by omega) hA _ _ (fun v ν hm => ?a) (fun v w ρ hw hA2 => ?b)
  case a =>
    (conv => whnf); try simp only [gO, gWe, ne_eq, Nat.reduceEqDiff, not_false_eq_true, true_or, or_true, true_and]
    repeat' (first | exact True.intro | (refine ⟨fun hb => ?_, fun hb => ?_⟩ <;> first | (exfalso; omega; done) | exact absurd True.intro hb | ((conv => whnf); try simp only [gO, gWe, ne_eq, Nat.reduceEqDiff, not_false_eq_true, true_or, or_true, true_and])) | (refine ⟨by omega, ?_⟩; (conv => whnf); try simp only [gO, gWe, ne_eq, Nat.reduceEqDiff, not_false_eq_true, true_or, or_true, true_and]) | (refine ⟨fun hb => ?_, ?_⟩ <;> first | (exfalso; omega; done) | exact absurd True.intro hb | ((conv => whnf); try simp only [gO, gWe, ne_eq, Nat.reduceEqDiff, not_false_eq_true, true_or, or_true, true_and])) | fail)
    exact hm
  case b =>
    subst hw
    (conv => whnf); try simp only [gO, gWe, ne_eq, Nat.reduceEqDiff, not_false_eq_true, true_or, or_true, true_and]
    repeat' (first | exact True.intro | (refine ⟨fun hb => ?_, fun hb => ?_⟩ <;> first | (exfalso; omega; done) | exact absurd True.intro hb | ((conv => whnf); try simp only [gO, gWe, ne_eq, Nat.reduceEqDiff, not_false_eq_true, true_or, or_true, true_and])) | (refine ⟨by omega, ?_⟩; (conv => whnf); try simp only [gO, gWe, ne_eq, Nat.reduceEqDiff, not_false_eq_true, true_or, or_true, true_and]) | (refine ⟨fun hb => ?_, ?_⟩ <;> first | (exfalso; omega; done) | exact absurd True.intro hb | ((conv => whnf); try simp only [gO, gWe, ne_eq, Nat.reduceEqDiff, not_false_eq_true, true_or, or_true, true_and])) | fail)
    exact ih ρ hA2
set_option maxRecDepth 100000 in
set_option maxHeartbeats 4000000 in
theorem l_107 {D : Nat} (hD : 35 ≤ D) {L i : Int} {X : Int → Int} {μ : MU} (hL : 0 ≤ L ∧ L ≤ 3072) (i0 : 0 ≤ i) (i1 : i ≤ L - 6) (hX : ∀ i : Int, 0 ≤ i → i < L → gOk (X i)) (hA : iAll μ) (ih : ∀ ρ : MU, iAll ρ → gG g_T g_F (gCall g_T g_F D) L X (g_T 227) (fun v _ _ => v = some (gI 1)) 1085 [gN 1, gR 0, gR 61, gI i] [] g_SH ρ 599919 7298895) : gG g_T g_F (gCall g_T g_F D) L X (g_T 227) (fun v _ _ => v = some (gI 1)) 940 [gN 1, gR 0, gR 61, gI i] [] g_SH μ 599919 7298895 := by
  refine gB_gG [1085] 60 ?_
  (conv => whnf); try simp only [gO, gWe, ne_eq, Nat.reduceEqDiff, not_false_eq_true, true_or, or_true, true_and]
  repeat' (first | exact True.intro | (refine ⟨fun hb => ?_, fun hb => ?_⟩ <;> first | (exfalso; omega; done) | exact absurd True.intro hb | ((conv => whnf); try simp only [gO, gWe, ne_eq, Nat.reduceEqDiff, not_false_eq_true, true_or, or_true, true_and])) | (refine ⟨by omega, ?_⟩; (conv => whnf); try simp only [gO, gWe, ne_eq, Nat.reduceEqDiff, not_false_eq_true, true_or, or_true, true_and]) | (refine ⟨fun hb => ?_, ?_⟩ <;> first | (exfalso; omega; done) | exact absurd True.intro hb | ((conv => whnf); try simp only [gO, gWe, ne_eq, Nat.reduceEqDiff, not_false_eq_true, true_or, or_true, true_and])) | fail)
  refine' c_107 (by omega) hA _ _ (fun v ν hm => ?a) (fun v w ρ hw hA2 => ?b)
  case a =>
    (conv => whnf); try simp only [gO, gWe, ne_eq, Nat.reduceEqDiff, not_false_eq_true, true_or, or_true, true_and]
    repeat' (first | exact True.intro | (refine ⟨fun hb => ?_, fun hb => ?_⟩ <;> first | (exfalso; omega; done) | exact absurd True.intro hb | ((conv => whnf); try simp only [gO, gWe, ne_eq, Nat.reduceEqDiff, not_false_eq_true, true_or, or_true, true_and])) | (refine ⟨by omega, ?_⟩; (conv => whnf); try simp only [gO, gWe, ne_eq, Nat.reduceEqDiff, not_false_eq_true, true_or, or_true, true_and]) | (refine ⟨fun hb => ?_, ?_⟩ <;> first | (exfalso; omega; done) | exact absurd True.intro hb | ((conv => whnf); try simp only [gO, gWe, ne_eq, Nat.reduceEqDiff, not_false_eq_true, true_or, or_true, true_and])) | fail)
    exact hm
  case b =>
    subst hw
    (conv => whnf); try simp only [gO, gWe, ne_eq, Nat.reduceEqDiff, not_false_eq_true, true_or, or_true, true_and]
    repeat' (first | exact True.intro | (refine ⟨fun hb => ?_, fun hb => ?_⟩ <;> first | (exfalso; omega; done) | exact absurd True.intro hb | ((conv => whnf); try simp only [gO, gWe, ne_eq, Nat.reduceEqDiff, not_false_eq_true, true_or, or_true, true_and])) | (refine ⟨by omega, ?_⟩; (conv => whnf); try simp only [gO, gWe, ne_eq, Nat.reduceEqDiff, not_false_eq_true, true_or, or_true, true_and]) | (refine ⟨fun hb => ?_, ?_⟩ <;> first | (exfalso; omega; done) | exact absurd True.intro hb | ((conv => whnf); try simp only [gO, gWe, ne_eq, Nat.reduceEqDiff, not_false_eq_true, true_or, or_true, true_and])) | fail)
    exact ih ρ hA2
set_option maxRecDepth 100000 in
set_option maxHeartbeats 4000000 in
theorem l_108 {D : Nat} (hD : 35 ≤ D) {L i : Int} {X : Int → Int} {μ : MU} (hL : 0 ≤ L ∧ L ≤ 3072) (i0 : 0 ≤ i) (i1 : i ≤ L - 6) (hX : ∀ i : Int, 0 ≤ i → i < L → gOk (X i)) (hA : iAll μ) (ih : ∀ ρ : MU, iAll ρ → gG g_T g_F (gCall g_T g_F D) L X (g_T 227) (fun v _ _ => v = some (gI 1)) 1085 [gN 1, gR 0, gR 61, gI i] [] g_SH ρ 599919 7298895) : gG g_T g_F (gCall g_T g_F D) L X (g_T 227) (fun v _ _ => v = some (gI 1)) 963 [gN 1, gR 0, gR 61, gI i] [] g_SH μ 599919 7298895 := by
  refine gB_gG [1085] 60 ?_
  (conv => whnf); try simp only [gO, gWe, ne_eq, Nat.reduceEqDiff, not_false_eq_true, true_or, or_true, true_and]
  repeat' (first | exact True.intro | (refine ⟨fun hb => ?_, fun hb => ?_⟩ <;> first | (exfalso; omega; done) | exact absurd True.intro hb | ((conv => whnf); try simp only [gO, gWe, ne_eq, Nat.reduceEqDiff, not_false_eq_true, true_or, or_true, true_and])) | (refine ⟨by omega, ?_⟩; (conv => whnf); try simp only [gO, gWe, ne_eq, Nat.reduceEqDiff, not_false_eq_true, true_or, or_true, true_and]) | (refine ⟨fun hb => ?_, ?_⟩ <;> first | (exfalso; omega; done) | exact absurd True.intro hb | ((conv => whnf); try simp only [gO, gWe, ne_eq, Nat.reduceEqDiff, not_false_eq_true, true_or, or_true, true_and])) | fail)
  refine' c_108 (by omega) hA _ _ (fun v ν hm => ?a) (fun v w ρ hw hA2 => ?b)
  case a =>
    (conv => whnf); try simp only [gO, gWe, ne_eq, Nat.reduceEqDiff, not_false_eq_true, true_or, or_true, true_and]
    repeat' (first | exact True.intro | (refine ⟨fun hb => ?_, fun hb => ?_⟩ <;> first | (exfalso; omega; done) | exact absurd True.intro hb | ((conv => whnf); try simp only [gO, gWe, ne_eq, Nat.reduceEqDiff, not_false_eq_true, true_or, or_true, true_and])) | (refine ⟨by omega, ?_⟩; (conv => whnf); try simp only [gO, gWe, ne_eq, Nat.reduceEqDiff, not_false_eq_true, true_or, or_true, true_and]) | (refine ⟨fun hb => ?_, ?_⟩ <;> first | (exfalso; omega; done) | exact absurd True.intro hb | ((conv => whnf); try simp only [gO, gWe, ne_eq, Nat.reduceEqDiff, not_false_eq_true, true_or, or_true, true_and])) | fail)
    exact hm
  case b =>
    subst hw
    (conv => whnf); try simp only [gO, gWe, ne_eq, Nat.reduceEqDiff, not_false_eq_true, true_or, or_true, true_and]
    repeat' (first | exact True.intro | (refine ⟨fun hb => ?_, fun hb => ?_⟩ <;> first | (exfalso; omega; done) | exact absurd True.intro hb | ((conv => whnf); try simp only [gO, gWe, ne_eq, Nat.reduceEqDiff, not_false_eq_true, true_or, or_true, true_and])) | (refine ⟨by omega, ?_⟩; (conv => whnf); try simp only [gO, gWe, ne_eq, Nat.reduceEqDiff, not_false_eq_true, true_or, or_true, true_and]) | (refine ⟨fun hb => ?_, ?_⟩ <;> first | (exfalso; omega; done) | exact absurd True.intro hb | ((conv => whnf); try simp only [gO, gWe, ne_eq, Nat.reduceEqDiff, not_false_eq_true, true_or, or_true, true_and])) | fail)
    exact ih ρ hA2
set_option maxRecDepth 100000 in
set_option maxHeartbeats 4000000 in
theorem l_109 {D : Nat} (hD : 35 ≤ D) {L i : Int} {X : Int → Int} {μ : MU} (hL : 0 ≤ L ∧ L ≤ 3072) (i0 : 0 ≤ i) (i1 : i ≤ L - 6) (hX : ∀ i : Int, 0 ≤ i → i < L → gOk (X i)) (hA : iAll μ) (ih : ∀ ρ : MU, iAll ρ → gG g_T g_F (gCall g_T g_F D) L X (g_T 227) (fun v _ _ => v = some (gI 1)) 1085 [gN 1, gR 0, gR 61, gI i] [] g_SH ρ 599919 7298895) : gG g_T g_F (gCall g_T g_F D) L X (g_T 227) (fun v _ _ => v = some (gI 1)) 986 [gN 1, gR 0, gR 61, gI i] [] g_SH μ 599919 7298895 := by
  refine gB_gG [1085] 60 ?_
  (conv => whnf); try simp only [gO, gWe, ne_eq, Nat.reduceEqDiff, not_false_eq_true, true_or, or_true, true_and]
  repeat' (first | exact True.intro | (refine ⟨fun hb => ?_, fun hb => ?_⟩ <;> first | (exfalso; omega; done) | exact absurd True.intro hb | ((conv => whnf); try simp only [gO, gWe, ne_eq, Nat.reduceEqDiff, not_false_eq_true, true_or, or_true, true_and])) | (refine ⟨by omega, ?_⟩; (conv => whnf); try simp only [gO, gWe, ne_eq, Nat.reduceEqDiff, not_false_eq_true, true_or, or_true, true_and]) | (refine ⟨fun hb => ?_, ?_⟩ <;> first | (exfalso; omega; done) | exact absurd True.intro hb | ((conv => whnf); try simp only [gO, gWe, ne_eq, Nat.reduceEqDiff, not_false_eq_true, true_or, or_true, true_and])) | fail)
  refine' c_109 (by omega) hA _ _ (fun v ν hm => ?a) (fun v w ρ hw hA2 => ?b)
  case a =>
    (conv => whnf); try simp only [gO, gWe, ne_eq, Nat.reduceEqDiff, not_false_eq_true, true_or, or_true, true_and]
    repeat' (first | exact True.intro | (refine ⟨fun hb => ?_, fun hb => ?_⟩ <;> first | (exfalso; omega; done) | exact absurd True.intro hb | ((conv => whnf); try simp only [gO, gWe, ne_eq, Nat.reduceEqDiff, not_false_eq_true, true_or, or_true, true_and])) | (refine ⟨by omega, ?_⟩; (conv => whnf); try simp only [gO, gWe, ne_eq, Nat.reduceEqDiff, not_false_eq_true, true_or, or_true, true_and]) | (refine ⟨fun hb => ?_, ?_⟩ <;> first | (exfalso; omega; done) | exact absurd True.intro hb | ((conv => whnf); try simp only [gO, gWe, ne_eq, Nat.reduceEqDiff, not_false_eq_true, true_or, or_true, true_and])) | fail)
    exact hm
  case b =>
    subst hw
    (conv => whnf); try simp only [gO, gWe, ne_eq, Nat.reduceEqDiff, not_false_eq_true, true_or, or_true, true_and]
    repeat' (first | exact True.intro | (refine ⟨fun hb => ?_, fun hb => ?_⟩ <;> first | (exfalso; omega; done) | exact absurd True.intro hb | ((conv => whnf); try simp only [gO, gWe, ne_eq, Nat.reduceEqDiff, not_false_eq_true, true_or, or_true, true_and])) | (refine ⟨by omega, ?_⟩; (conv => whnf); try simp only [gO, gWe, ne_eq, Nat.reduceEqDiff, not_false_eq_true, true_or, or_true, true_and]) | (refine ⟨fun hb => ?_, ?_⟩ <;> first | (exfalso; omega; done) | exact absurd True.intro hb | ((conv => whnf); try simp only [gO, gWe, ne_eq, Nat.reduceEqDiff, not_false_eq_true, true_or, or_true, true_and])) | fail)
    exact ih ρ hA2
set_option maxRecDepth 100000 in
set_option maxHeartbeats 4000000 in
theorem l_110 {D : Nat} (hD : 35 ≤ D) {L i : Int} {X : Int → Int} {μ : MU} (hL : 0 ≤ L ∧ L ≤ 3072) (i0 : 0 ≤ i) (i1 : i ≤ L - 6) (hX : ∀ i : Int, 0 ≤ i → i < L → gOk (X i)) (hA : iAll μ) (ih : ∀ ρ : MU, iAll ρ → gG g_T g_F (gCall g_T g_F D) L X (g_T 227) (fun v _ _ => v = some (gI 1)) 1085 [gN 1, gR 0, gR 61, gI i] [] g_SH ρ 599919 7298895) : gG g_T g_F (gCall g_T g_F D) L X (g_T 227) (fun v _ _ => v = some (gI 1)) 999 [gN 1, gR 0, gR 61, gI i] [] g_SH μ 599919 7298895 := by
  refine gB_gG [1085] 60 ?_
  (conv => whnf); try simp only [gO, gWe, ne_eq, Nat.reduceEqDiff, not_false_eq_true, true_or, or_true, true_and]
  repeat' (first | exact True.intro | (refine ⟨fun hb => ?_, fun hb => ?_⟩ <;> first | (exfalso; omega; done) | exact absurd True.intro hb | ((conv => whnf); try simp only [gO, gWe, ne_eq, Nat.reduceEqDiff, not_false_eq_true, true_or, or_true, true_and])) | (refine ⟨by omega, ?_⟩; (conv => whnf); try simp only [gO, gWe, ne_eq, Nat.reduceEqDiff, not_false_eq_true, true_or, or_true, true_and]) | (refine ⟨fun hb => ?_, ?_⟩ <;> first | (exfalso; omega; done) | exact absurd True.intro hb | ((conv => whnf); try simp only [gO, gWe, ne_eq, Nat.reduceEqDiff, not_false_eq_true, true_or, or_true, true_and])) | fail)
  refine' c_110 (by omega) hA _ _ (fun v ν hm => ?a) (fun v w ρ hw hA2 => ?b)
  case a =>
    (conv => whnf); try simp only [gO, gWe, ne_eq, Nat.reduceEqDiff, not_false_eq_true, true_or, or_true, true_and]
    repeat' (first | exact True.intro | (refine ⟨fun hb => ?_, fun hb => ?_⟩ <;> first | (exfalso; omega; done) | exact absurd True.intro hb | ((conv => whnf); try simp only [gO, gWe, ne_eq, Nat.reduceEqDiff, not_false_eq_true, true_or, or_true, true_and])) | (refine ⟨by omega, ?_⟩; (conv => whnf); try simp only [gO, gWe, ne_eq, Nat.reduceEqDiff, not_false_eq_true, true_or, or_true, true_and]) | (refine ⟨fun hb => ?_, ?_⟩ <;> first | (exfalso; omega; done) | exact absurd True.intro hb | ((conv => whnf); try simp only [gO, gWe, ne_eq, Nat.reduceEqDiff, not_false_eq_true, true_or, or_true, true_and])) | fail)
    exact hm
  case b =>
    subst hw
    (conv => whnf); try simp only [gO, gWe, ne_eq, Nat.reduceEqDiff, not_false_eq_true, true_or, or_true, true_and]
    repeat' (first | exact True.intro | (refine ⟨fun hb => ?_, fun hb => ?_⟩ <;> first | (exfalso; omega; done) | exact absurd True.intro hb | ((conv => whnf); try simp only [gO, gWe, ne_eq, Nat.reduceEqDiff, not_false_eq_true, true_or, or_true, true_and])) | (refine ⟨by omega, ?_⟩; (conv => whnf); try simp only [gO, gWe, ne_eq, Nat.reduceEqDiff, not_false_eq_true, true_or, or_true, true_and]) | (refine ⟨fun hb => ?_, ?_⟩ <;> first | (exfalso; omega; done) | exact absurd True.intro hb | ((conv => whnf); try simp only [gO, gWe, ne_eq, Nat.reduceEqDiff, not_false_eq_true, true_or, or_true, true_and])) | fail)
    exact ih ρ hA2
set_option maxRecDepth 100000 in
set_option maxHeartbeats 4000000 in
theorem l_111 {D : Nat} (hD : 35 ≤ D) {L i : Int} {X : Int → Int} {μ : MU} (hL : 0 ≤ L ∧ L ≤ 3072) (i0 : 0 ≤ i) (i1 : i ≤ L - 6) (hX : ∀ i : Int, 0 ≤ i → i < L → gOk (X i)) (hA : iAll μ) (ih : ∀ ρ : MU, iAll ρ → gG g_T g_F (gCall g_T g_F D) L X (g_T 227) (fun v _ _ => v = some (gI 1)) 1085 [gN 1, gR 0, gR 61, gI i] [] g_SH ρ 599919 7298895) : gG g_T g_F (gCall g_T g_F D) L X (g_T 227) (fun v _ _ => v = some (gI 1)) 1012 [gN 1, gR 0, gR 61, gI i] [] g_SH μ 599919 7298895 := by
  refine gB_gG [1085] 60 ?_
  (conv => whnf); try simp only [gO, gWe, ne_eq, Nat.reduceEqDiff, not_false_eq_true, true_or, or_true, true_and]
  repeat' (first | exact True.intro | (refine ⟨fun hb => ?_, fun hb => ?_⟩ <;> first | (exfalso; omega; done) | exact absurd True.intro hb | ((conv => whnf); try simp only [gO, gWe, ne_eq, Nat.reduceEqDiff, not_false_eq_true, true_or, or_true, true_and])) | (refine ⟨by omega, ?_⟩; (conv => whnf); try simp only [gO, gWe, ne_eq, Nat.reduceEqDiff, not_false_eq_true, true_or, or_true, true_and]) | (refine ⟨fun hb => ?_, ?_⟩ <;> first | (exfalso; omega; done) | exact absurd True.intro hb | ((conv => whnf); try simp only [gO, gWe, ne_eq, Nat.reduceEqDiff, not_false_eq_true, true_or, or_true, true_and])) | fail)
  refine' c_111 (by omega) hA _ _ (fun v ν hm => ?a) (fun v w ρ hw hA2 => ?b)
  case a =>
    (conv => whnf); try simp only [gO, gWe, ne_eq, Nat.reduceEqDiff, not_false_eq_true, true_or, or_true, true_and]
    repeat' (first | exact True.intro | (refine ⟨fun hb => ?_, fun hb => ?_⟩ <;> first | (exfalso; omega; done) | exact absurd True.intro hb | ((conv => whnf); try simp only [gO, gWe, ne_eq, Nat.reduceEqDiff, not_false_eq_true, true_or, or_true, true_and])) | (refine ⟨by omega, ?_⟩; (conv => whnf); try simp only [gO, gWe, ne_eq, Nat.reduceEqDiff, not_false_eq_true, true_or, or_true, true_and]) | (refine ⟨fun hb => ?_, ?_⟩ <;> first | (exfalso; omega; done) | exact absurd True.intro hb | ((conv => whnf); try simp only [gO, gWe, ne_eq, Nat.reduceEqDiff, not_false_eq_true, true_or, or_true, true_and])) | fail)
    exact hm
  case b =>
    subst hw
    (conv => whnf); try simp only [gO, gWe, ne_eq, Nat.reduceEqDiff, not_false_eq_true, true_or, or_true, true_and]
    repeat' (first | exact True.intro | (refine ⟨fun hb => ?_, fun hb => ?_⟩ <;> first | (exfalso; omega; done) | exact absurd True.intro hb | ((conv => whnf); try simp only [gO, gWe, ne_eq, Nat.reduceEqDiff, not_false_eq_true, true_or, or_true, true_and])) | (refine ⟨by omega, ?_⟩; (conv => whnf); try simp only [gO, gWe, ne_eq, Nat.reduceEqDiff, not_false_eq_true, true_or, or_true, true_and]) | (refine ⟨fun hb => ?_, ?_⟩ <;> first | (exfalso; omega; done) | exact absurd True.intro hb | ((conv => whnf); try simp only [gO, gWe, ne_eq, Nat.reduceEqDiff, not_false_eq_true, true_or, or_true, true_and])) | fail)
    exact ih ρ hA2
set_option maxRecDepth 100000 in
set_option maxHeartbeats 4000000 in
theorem l_112 {D : Nat} (hD : 35 ≤ D) {L i : Int} {X : Int → Int} {μ : MU} (hL : 0 ≤ L ∧ L ≤ 3072) (i0 : 0 ≤ i) (i1 : i ≤ L - 6) (hX : ∀ i : Int, 0 ≤ i → i < L → gOk (X i)) (hA : iAll μ) (ih : ∀ ρ : MU, iAll ρ → gG g_T g_F (gCall g_T g_F D) L X (g_T 227) (fun v _ _ => v = some (gI 1)) 1085 [gN 1, gR 0, gR 61, gI i] [] g_SH ρ 599919 7298895) : gG g_T g_F (gCall g_T g_F D) L X (g_T 227) (fun v _ _ => v = some (gI 1)) 1025 [gN 1, gR 0, gR 61, gI i] [] g_SH μ 599919 7298895 := by
  refine gB_gG [1085] 60 ?_
  (conv => whnf); try simp only [gO, gWe, ne_eq, Nat.reduceEqDiff, not_false_eq_true, true_or, or_true, true_and]
  repeat' (first | exact True.intro | (refine ⟨fun hb => ?_, fun hb => ?_⟩ <;> first | (exfalso; omega; done) | exact absurd True.intro hb | ((conv => whnf); try simp only [gO, gWe, ne_eq, Nat.reduceEqDiff, not_false_eq_true, true_or, or_true, true_and])) | (refine ⟨by omega, ?_⟩; (conv => whnf); try simp only [gO, gWe, ne_eq, Nat.reduceEqDiff, not_false_eq_true, true_or, or_true, true_and]) | (refine ⟨fun hb => ?_, ?_⟩ <;> first | (exfalso; omega; done) | exact absurd True.intro hb | ((conv => whnf); try simp only [gO, gWe, ne_eq, Nat.reduceEqDiff, not_false_eq_true, true_or, or_true, true_and])) | fail)
  refine' c_112 (by omega) hA _ _ (fun v ν hm => ?a) (fun v w ρ hw hA2 => ?b)
  case a =>
    (conv => whnf); try simp only [gO, gWe, ne_eq, Nat.reduceEqDiff, not_false_eq_true, true_or, or_true, true_and]
    repeat' (first | exact True.intro | (refine ⟨fun hb => ?_, fun hb => ?_⟩ <;> first | (exfalso; omega; done) | exact absurd True.intro hb | ((conv => whnf); try simp only [gO, gWe, ne_eq, Nat.reduceEqDiff, not_false_eq_true, true_or, or_true, true_and])) | (refine ⟨by omega, ?_⟩; (conv => whnf); try simp only [gO, gWe, ne_eq, Nat.reduceEqDiff, not_false_eq_true, true_or, or_true, true_and]) | (refine ⟨fun hb => ?_, ?_⟩ <;> first | (exfalso; omega; done) | exact absurd True.intro hb | ((conv => whnf); try simp only [gO, gWe, ne_eq, Nat.reduceEqDiff, not_false_eq_true, true_or, or_true, true_and])) | fail)
    exact hm
  case b =>
    subst hw
    (conv => whnf); try simp only [gO, gWe, ne_eq, Nat.reduceEqDiff, not_false_eq_true, true_or, or_true, true_and]
    repeat' (first | exact True.intro | (refine ⟨fun hb => ?_, fun hb => ?_⟩ <;> first | (exfalso; omega; done) | exact absurd True.intro hb | ((conv => whnf); try simp only [gO, gWe, ne_eq, Nat.reduceEqDiff, not_false_eq_true, true_or, or_true, true_and])) | (refine ⟨by omega, ?_⟩; (conv => whnf); try simp only [gO, gWe, ne_eq, Nat.reduceEqDiff, not_false_eq_true, true_or, or_true, true_and]) | (refine ⟨fun hb => ?_, ?_⟩ <;> first | (exfalso; omega; done) | exact absurd True.intro hb | ((conv => whnf); try simp only [gO, gWe, ne_eq, Nat.reduceEqDiff, not_false_eq_true, true_or, or_true, true_and])) | fail)
    exact ih ρ hA2
set_option maxRecDepth 100000 in
set_option maxHeartbeats 4000000 in
theorem l_113 {D : Nat} (hD : 35 ≤ D) {L i : Int} {X : Int → Int} {μ : MU} (hL : 0 ≤ L ∧ L ≤ 3072) (i0 : 0 ≤ i) (i1 : i ≤ L - 6) (hX : ∀ i : Int, 0 ≤ i → i < L → gOk (X i)) (hA : iAll μ) (ih : ∀ ρ : MU, iAll ρ → gG g_T g_F (gCall g_T g_F D) L X (g_T 227) (fun v _ _ => v = some (gI 1)) 1085 [gN 1, gR 0, gR 61, gI i] [] g_SH ρ 599919 7298895) : gG g_T g_F (gCall g_T g_F D) L X (g_T 227) (fun v _ _ => v = some (gI 1)) 1048 [gN 1, gR 0, gR 61, gI i] [] g_SH μ 599919 7298895 := by
  refine gB_gG [1085] 60 ?_
  (conv => whnf); try simp only [gO, gWe, ne_eq, Nat.reduceEqDiff, not_false_eq_true, true_or, or_true, true_and]
  repeat' (first | exact True.intro | (refine ⟨fun hb => ?_, fun hb => ?_⟩ <;> first | (exfalso; omega; done) | exact absurd True.intro hb | ((conv => whnf); try simp only [gO, gWe, ne_eq, Nat.reduceEqDiff, not_false_eq_true, true_or, or_true, true_and])) | (refine ⟨by omega, ?_⟩; (conv => whnf); try simp only [gO, gWe, ne_eq, Nat.reduceEqDiff, not_false_eq_true, true_or, or_true, true_and]) | (refine ⟨fun hb => ?_, ?_⟩ <;> first | (exfalso; omega; done) | exact absurd True.intro hb | ((conv => whnf); try simp only [gO, gWe, ne_eq, Nat.reduceEqDiff, not_false_eq_true, true_or, or_true, true_and])) | fail)
  refine' c_113 (by omega) hA _ _ (fun v ν hm => ?a) (fun v w ρ hw hA2 => ?b)
  case a =>
    (conv => whnf); try simp only [gO, gWe, ne_eq, Nat.reduceEqDiff, not_false_eq_true, true_or, or_true, true_and]
    repeat' (first | exact True.intro | (refine ⟨fun hb => ?_, fun hb => ?_⟩ <;> first | (exfalso; omega; done) | exact absurd True.intro hb | ((conv => whnf); try simp only [gO, gWe, ne_eq, Nat.reduceEqDiff, not_false_eq_true, true_or, or_true, true_and])) | (refine ⟨by omega, ?_⟩; (conv => whnf); try simp only [gO, gWe, ne_eq, Nat.reduceEqDiff, not_false_eq_true, true_or, or_true, true_and]) | (refine ⟨fun hb => ?_, ?_⟩ <;> first | (exfalso; omega; done) | exact absurd True.intro hb | ((conv => whnf); try simp only [gO, gWe, ne_eq, Nat.reduceEqDiff, not_false_eq_true, true_or, or_true, true_and])) | fail)
    exact hm
  case b =>
    subst hw
    (conv => whnf); try simp only [gO, gWe, ne_eq, Nat.reduceEqDiff, not_false_eq_true, true_or, or_true, true_and]
    repeat' (first | exact True.intro | (refine ⟨fun hb => ?_, fun hb => ?_⟩ <;> first | (exfalso; omega; done) | exact absurd True.intro hb | ((conv => whnf); try simp only [gO, gWe, ne_eq, Nat.reduceEqDiff, not_false_eq_true, true_or, or_true, true_and])) | (refine ⟨by omega, ?_⟩; (conv => whnf); try simp only [gO, gWe, ne_eq, Nat.reduceEqDiff, not_false_eq_true, true_or, or_true, true_and]) | (refine ⟨fun hb => ?_, ?_⟩ <;> first | (exfalso; omega; done) | exact absurd True.intro hb | ((conv => whnf); try simp only [gO, gWe, ne_eq, Nat.reduceEqDiff, not_false_eq_true, true_or, or_true, true_and])) | fail)
    exact ih ρ hA2
set_option maxRecDepth 100000 in
set_option maxHeartbeats 4000000 in
theorem l_114 {D : Nat} (hD : 35 ≤ D) {L i : Int} {X : Int → Int} {μ : MU} (hL : 0 ≤ L ∧ L ≤ 3072) (i0 : 0 ≤ i) (i1 : i ≤ L - 6) (hX : ∀ i : Int, 0 ≤ i → i < L → gOk (X i)) (hA : iAll μ) (ih : ∀ ρ : MU, iAll ρ → gG g_T g_F (gCall g_T g_F D) L X (g_T 227) (fun v _ _ => v = some (gI 1)) 1085 [gN 1, gR 0, gR 61, gI i] [] g_SH ρ 599919 7298895) : gG g_T g_F (gCall g_T g_F D) L X (g_T 227) (fun v _ _ => v = some (gI 1)) 1071 [gN 1, gR 0, gR 61, gI i] [] g_SH μ 599919 7298895 := by
  refine gB_gG [1085] 60 ?_
  (conv => whnf); try simp only [gO, gWe, ne_eq, Nat.reduceEqDiff, not_false_eq_true, true_or, or_true, true_and]
  repeat' (first | exact True.intro | (refine ⟨fun hb => ?_, fun hb => ?_⟩ <;> first | (exfalso; omega; done) | exact absurd True.intro hb | ((conv => whnf); try simp only [gO, gWe, ne_eq, Nat.reduceEqDiff, not_false_eq_true, true_or, or_true, true_and])) | (refine ⟨by omega, ?_⟩; (conv => whnf); try simp only [gO, gWe, ne_eq, Nat.reduceEqDiff, not_false_eq_true, true_or, or_true, true_and]) | (refine ⟨fun hb => ?_, ?_⟩ <;> first | (exfalso; omega; done) | exact absurd True.intro hb | ((conv => whnf); try simp only [gO, gWe, ne_eq, Nat.reduceEqDiff, not_false_eq_true, true_or, or_true, true_and])) | fail)
  refine' c_114 (by omega) hA _ _ (fun v ν hm => ?a) (fun v w ρ hw hA2 => ?b)
  case a =>
    (conv => whnf); try simp only [gO, gWe, ne_eq, Nat.reduceEqDiff, not_false_eq_true, true_or, or_true, true_and]
    repeat' (first | exact True.intro | (refine ⟨fun hb => ?_, fun hb => ?_⟩ <;> first | (exfalso; omega; done) | exact absurd True.intro hb | ((conv => whnf); try simp only [gO, gWe, ne_eq, Nat.reduceEqDiff, not_false_eq_true, true_or, or_true, true_and])) | (refine ⟨by omega, ?_⟩; (conv => whnf); try simp only [gO, gWe, ne_eq, Nat.reduceEqDiff, not_false_eq_true, true_or, or_true, true_and]) | (refine ⟨fun hb => ?_, ?_⟩ <;> first | (exfalso; omega; done) | exact absurd True.intro hb | ((conv => whnf); try simp only [gO, gWe, ne_eq, Nat.reduceEqDiff, not_false_eq_true, true_or, or_true, true_and])) | fail)
    exact hm
  case b =>
    subst hw
    (conv => whnf); try simp only [gO, gWe, ne_eq, Nat.reduceEqDiff, not_false_eq_true, true_or, or_true, true_and]
    repeat' (first | exact True.intro | (refine ⟨fun hb => ?_, fun hb => ?_⟩ <;> first | (exfalso; omega; done) | exact absurd True.intro hb | ((conv => whnf); try simp only [gO, gWe, ne_eq, Nat.reduceEqDiff, not_false_eq_true, true_or, or_true, true_and])) | (refine ⟨by omega, ?_⟩; (conv => whnf); try simp only [gO, gWe, ne_eq, Nat.reduceEqDiff, not_false_eq_true, true_or, or_true, true_and]) | (refine ⟨fun hb => ?_, ?_⟩ <;> first | (exfalso; omega; done) | exact absurd True.intro hb | ((conv => whnf); try simp only [gO, gWe, ne_eq, Nat.reduceEqDiff, not_false_eq_true, true_or, or_true, true_and])) | fail)
    exact ih ρ hA2
theorem gSw_all {a : Int} : ∀ {l : List Int} {j : Int} {k : Int → Prop}, (∀ o ∈ l, k o) → gSw a j l k
  | [], _, _, _ => True.intro
  | _ :: _, _, _, h => ⟨fun _ => h _ List.mem_cons_self, gSw_all (fun o ho => h o (List.mem_cons_of_mem _ ho))⟩
set_option maxRecDepth 100000 in
set_option maxHeartbeats 4000000 in
theorem l_sw {D : Nat} (hD : 35 ≤ D) {L i : Int} {X : Int → Int} {μ : MU} (hL : 0 ≤ L ∧ L ≤ 3072) (i0 : 0 ≤ i) (i1 : i ≤ L - 6) (h75 : gG g_T g_F (gCall g_T g_F D) L X (g_T 227) (fun v _ _ => v = some (gI 1)) 208 [gN 1, gR 0, gR 61, gI i] [] g_SH μ 599919 7298895) (h76 : gG g_T g_F (gCall g_T g_F D) L X (g_T 227) (fun v _ _ => v = some (gI 1)) 221 [gN 1, gR 0, gR 61, gI i] [] g_SH μ 599919 7298895) (h77 : gG g_T g_F (gCall g_T g_F D) L X (g_T 227) (fun v _ _ => v = some (gI 1)) 254 [gN 1, gR 0, gR 61, gI i] [] g_SH μ 599919 7298895) (h78 : gG g_T g_F (gCall g_T g_F D) L X (g_T 227) (fun v _ _ => v = some (gI 1)) 317 [gN 1, gR 0, gR 61, gI i] [] g_SH μ 599919 7298895) (h79 : gG g_T g_F (gCall g_T g_F D) L X (g_T 227) (fun v _ _ => v = some (gI 1)) 330 [gN 1, gR 0, gR 61, gI i] [] g_SH μ 599919 7298895) (h80 : gG g_T g_F (gCall g_T g_F D) L X (g_T 227) (fun v _ _ => v = some (gI 1)) 363 [gN 1, gR 0, gR 61, gI i] [] g_SH μ 599919 7298895) (h81 : gG g_T g_F (gCall g_T g_F D) L X (g_T 227) (fun v _ _ => v = some (gI 1)) 376 [gN 1, gR 0, gR 61, gI i] [] g_SH μ 599919 7298895) (h82 : gG g_T g_F (gCall g_T g_F D) L X (g_T 227) (fun v _ _ => v = some (gI 1)) 389 [gN 1, gR 0, gR 61, gI i] [] g_SH μ 599919 7298895) (h83 : gG g_T g_F (gCall g_T g_F D) L X (g_T 227) (fun v _ _ => v = some (gI 1)) 422 [gN 1, gR 0, gR 61, gI i] [] g_SH μ 599919 7298895) (h84 : gG g_T g_F (gCall g_T g_F D) L X (g_T 227) (fun v _ _ => v = some (gI 1)) 445 [gN 1, gR 0, gR 61, gI i] [] g_SH μ 599919 7298895) (h85 : gG g_T g_F (gCall g_T g_F D) L X (g_T 227) (fun v _ _ => v = some (gI 1)) 458 [gN 1, gR 0, gR 61, gI i] [] g_SH μ 599919 7298895) (h86 : gG g_T g_F (gCall g_T g_F D) L X (g_T 227) (fun v _ _ => v = some (gI 1)) 481 [gN 1, gR 0, gR 61, gI i] [] g_SH μ 599919 7298895) (h87 : gG g_T g_F (gCall g_T g_F D) L X (g_T 227) (fun v _ _ => v = some (gI 1)) 504 [gN 1, gR 0, gR 61, gI i] [] g_SH μ 599919 7298895) (h88 : gG g_T g_F (gCall g_T g_F D) L X (g_T 227) (fun v _ _ => v = some (gI 1)) 517 [gN 1, gR 0, gR 61, gI i] [] g_SH μ 599919 7298895) (h89 : gG g_T g_F (gCall g_T g_F D) L X (g_T 227) (fun v _ _ => v = some (gI 1)) 530 [gN 1, gR 0, gR 61, gI i] [] g_SH μ 599919 7298895) (h90 : gG g_T g_F (gCall g_T g_F D) L X (g_T 227) (fun v _ _ => v = some (gI 1)) 543 [gN 1, gR 0, gR 61, gI i] [] g_SH μ 599919 7298895) (h91 : gG g_T g_F (gCall g_T g_F D) L X (g_T 227) (fun v _ _ => v = some (gI 1)) 566 [gN 1, gR 0, gR 61, gI i] [] g_SH μ 599919 7298895) (h92 : gG g_T g_F (gCall g_T g_F D) L X (g_T 227) (fun v _ _ => v = some (gI 1)) 599 [gN 1, gR 0, gR 61, gI i] [] g_SH μ 599919 7298895) (h93 : gG g_T g_F (gCall g_T g_F D) L X (g_T 227) (fun v _ _ => v = some (gI 1)) 622 [gN 1, gR 0, gR 61, gI i] [] g_SH μ 599919 7298895) (h94 : gG g_T g_F (gCall g_T g_F D) L X (g_T 227) (fun v _ _ => v = some (gI 1)) 645 [gN 1, gR 0, gR 61, gI i] [] g_SH μ 599919 7298895) (h95 : gG g_T g_F (gCall g_T g_F D) L X (g_T 227) (fun v _ _ => v = some (gI 1)) 658 [gN 1, gR 0, gR 61, gI i] [] g_SH μ 599919 7298895) (h96 : gG g_T g_F (gCall g_T g_F D) L X (g_T 227) (fun v _ _ => v = some (gI 1)) 691 [gN 1, gR 0, gR 61, gI i] [] g_SH μ 599919 7298895) (h97 : gG g_T g_F (gCall g_T g_F D) L X (g_T 227) (fun v _ _ => v = some (gI 1)) 730 [gN 1, gR 0, gR 61, gI i] [] g_SH μ 599919 7298895) (h98 : gG g_T g_F (gCall g_T g_F D) L X (g_T 227) (fun v _ _ => v = some (gI 1)) 753 [gN 1, gR 0, gR 61, gI i] [] g_SH μ 599919 7298895) (h99 : gG g_T g_F (gCall g_T g_F D) L X (g_T 227) (fun v _ _ => v = some (gI 1)) 766 [gN 1, gR 0, gR 61, gI i] [] g_SH μ 599919 7298895) (h100 : gG g_T g_F (gCall g_T g_F D) L X (g_T 227) (fun v _ _ => v = some (gI 1)) 789 [gN 1, gR 0, gR 61, gI i] [] g_SH μ 599919 7298895) (h101 : gG g_T g_F (gCall g_T g_F D) L X (g_T 227) (fun v _ _ => v = some (gI 1)) 822 [gN 1, gR 0, gR 61, gI i] [] g_SH μ 599919 7298895) (h102 : gG g_T g_F (gCall g_T g_F D) L X (g_T 227) (fun v _ _ => v = some (gI 1)) 835 [gN 1, gR 0, gR 61, gI i] [] g_SH μ 599919 7298895) (h103 : gG g_T g_F (gCall g_T g_F D) L X (g_T 227) (fun v _ _ => v = some (gI 1)) 858 [gN 1, gR 0, gR 61, gI i] [] g_SH μ 599919 7298895) (h104 : gG g_T g_F (gCall g_T g_F D) L X (g_T 227) (fun v _ _ => v = some (gI 1)) 871 [gN 1, gR 0, gR 61, gI i] [] g_SH μ 599919 7298895) (h105 : gG g_T g_F (gCall g_T g_F D) L X (g_T 227) (fun v _ _ => v = some (gI 1)) 884 [gN 1, gR 0, gR 61, gI i] [] g_SH μ 599919 7298895) (h106 : gG g_T g_F (gCall g_T g_F D) L X (g_T 227) (fun v _ _ => v = some (gI 1)) 907 [gN 1, gR 0, gR 61, gI i] [] g_SH μ 599919 7298895) (h107 : gG g_T g_F (gCall g_T g_F D) L X (g_T 227) (fun v _ _ => v = some (gI 1)) 940 [gN 1, gR 0, gR 61, gI i] [] g_SH μ 599919 7298895) (h108 : gG g_T g_F (gCall g_T g_F D) L X (g_T 227) (fun v _ _ => v = some (gI 1)) 963 [gN 1, gR 0, gR 61, gI i] [] g_SH μ 599919 7298895) (h109 : gG g_T g_F (gCall g_T g_F D) L X (g_T 227) (fun v _ _ => v = some (gI 1)) 986 [gN 1, gR 0, gR 61, gI i] [] g_SH μ 599919 7298895) (h110 : gG g_T g_F (gCall g_T g_F D) L X (g_T 227) (fun v _ _ => v = some (gI 1)) 999 [gN 1, gR 0, gR 61, gI i] [] g_SH μ 599919 7298895) (h111 : gG g_T g_F (gCall g_T g_F D) L X (g_T 227) (fun v _ _ => v = some (gI 1)) 1012 [gN 1, gR 0, gR 61, gI i] [] g_SH μ 599919 7298895) (h112 : gG g_T g_F (gCall g_T g_F D) L X (g_T 227) (fun v _ _ => v = some (gI 1)) 1025 [gN 1, gR 0, gR 61, gI i] [] g_SH μ 599919 7298895) (h113 : gG g_T g_F (gCall g_T g_F D) L X (g_T 227) (fun v _ _ => v = some (gI 1)) 1048 [gN 1, gR 0, gR 61, gI i] [] g_SH μ 599919 7298895) (h114 : gG g_T g_F (gCall g_T g_F D) L X (g_T 227) (fun v _ _ => v = some (gI 1)) 1071 [gN 1, gR 0, gR 61, gI i] [] g_SH μ 599919 7298895) (hd : gG g_T g_F (gCall g_T g_F D) L X (g_T 227) (fun v _ _ => v = some (gI 1)) 1085 [gN 1, gR 0, gR 61, gI i] [] g_SH μ 599919 7298895) : gG g_T g_F (gCall g_T g_F D) L X (g_T 227) (fun v _ _ => v = some (gI 1)) 18 [gN 1, gR 0, gR 61, gI i] [] g_SH μ 599919 7298895 := by
  have hs : ∀ o ∈ [(175 : Int), (188 : Int), (221 : Int), (284 : Int), (297 : Int), (330 : Int), (343 : Int), (356 : Int), (389 : Int), (412 : Int), (425 : Int), (448 : Int), (471 : Int), (484 : Int), (497 : Int), (510 : Int), (533 : Int), (566 : Int), (589 : Int), (612 : Int), (625 : Int), (658 : Int), (697 : Int), (720 : Int), (733 : Int), (756 : Int), (789 : Int), (802 : Int), (825 : Int), (838 : Int), (851 : Int), (874 : Int), (907 : Int), (930 : Int), (953 : Int), (966 : Int), (979 : Int), (992 : Int), (1015 : Int), (1038 : Int)], (0 : Int) ≤ 33 + o ∧ gG g_T g_F (gCall g_T g_F D) L X (g_T 227) (fun v _ _ => v = some (gI 1)) (33 + o).toNat [gN 1, gR 0, gR 61, gI i] [] g_SH μ 599919 7298895 := by
    intro o ho
    rcases List.mem_cons.mp ho with rfl | ho
    · exact ⟨by decide, h75⟩
    rcases List.mem_cons.mp ho with rfl | ho
    · exact ⟨by decide, h76⟩
    rcases List.mem_cons.mp ho with rfl | ho
    · exact ⟨by decide, h77⟩
    rcases List.mem_cons.mp ho with rfl | ho
    · exact ⟨by decide, h78⟩
    rcases List.mem_cons.mp ho with rfl | ho
    · exact ⟨by decide, h79⟩
    rcases List.mem_cons.mp ho with rfl | ho
    · exact ⟨by decide, h80⟩
    rcases List.mem_cons.mp ho with rfl | ho
    · exact ⟨by decide, h81⟩
    rcases List.mem_cons.mp ho with rfl | ho
    · exact ⟨by decide, h82⟩
    rcases List.mem_cons.mp ho with rfl | ho
    · exact ⟨by decide, h83⟩
    rcases List.mem_cons.mp ho with rfl | ho
    · exact ⟨by decide, h84⟩
    rcases List.mem_cons.mp ho with rfl | ho
    · exact ⟨by decide, h85⟩
    rcases List.mem_cons.mp ho with rfl | ho
    · exact ⟨by decide, h86⟩
    rcases List.mem_cons.mp ho with rfl | ho
    · exact ⟨by decide, h87⟩
    rcases List.mem_cons.mp ho with rfl | ho
    · exact ⟨by decide, h88⟩
    rcases List.mem_cons.mp ho with rfl | ho
    · exact ⟨by decide, h89⟩
    rcases List.mem_cons.mp ho with rfl | ho
    · exact ⟨by decide, h90⟩
    rcases List.mem_cons.mp ho with rfl | ho
    · exact ⟨by decide, h91⟩
    rcases List.mem_cons.mp ho with rfl | ho
    · exact ⟨by decide, h92⟩
    rcases List.mem_cons.mp ho with rfl | ho
    · exact ⟨by decide, h93⟩
    rcases List.mem_cons.mp ho with rfl | ho
    · exact ⟨by decide, h94⟩
    rcases List.mem_cons.mp ho with rfl | ho
    · exact ⟨by decide, h95⟩
    rcases List.mem_cons.mp ho with rfl | ho
    · exact ⟨by decide, h96⟩
    rcases List.mem_cons.mp ho with rfl | ho
    · exact ⟨by decide, h97⟩
    rcases List.mem_cons.mp ho with rfl | ho
    · exact ⟨by decide, h98⟩
    rcases List.mem_cons.mp ho with rfl | ho
    · exact ⟨by decide, h99⟩
    rcases List.mem_cons.mp ho with rfl | ho
    · exact ⟨by decide, h100⟩
    rcases List.mem_cons.mp ho with rfl | ho
    · exact ⟨by decide, h101⟩
    rcases List.mem_cons.mp ho with rfl | ho
    · exact ⟨by decide, h102⟩
    rcases List.mem_cons.mp ho with rfl | ho
    · exact ⟨by decide, h103⟩
    rcases List.mem_cons.mp ho with rfl | ho
    · exact ⟨by decide, h104⟩
    rcases List.mem_cons.mp ho with rfl | ho
    · exact ⟨by decide, h105⟩
    rcases List.mem_cons.mp ho with rfl | ho
    · exact ⟨by decide, h106⟩
    rcases List.mem_cons.mp ho with rfl | ho
    · exact ⟨by decide, h107⟩
    rcases List.mem_cons.mp ho with rfl | ho
    · exact ⟨by decide, h108⟩
    rcases List.mem_cons.mp ho with rfl | ho
    · exact ⟨by decide, h109⟩
    rcases List.mem_cons.mp ho with rfl | ho
    · exact ⟨by decide, h110⟩
    rcases List.mem_cons.mp ho with rfl | ho
    · exact ⟨by decide, h111⟩
    rcases List.mem_cons.mp ho with rfl | ho
    · exact ⟨by decide, h112⟩
    rcases List.mem_cons.mp ho with rfl | ho
    · exact ⟨by decide, h113⟩
    rcases List.mem_cons.mp ho with rfl | ho
    · exact ⟨by decide, h114⟩
    exact absurd ho List.not_mem_nil
  clear h75 h76 h77 h78 h79 h80 h81 h82 h83 h84 h85 h86 h87 h88 h89 h90 h91 h92 h93 h94 h95 h96 h97 h98 h99 h100 h101 h102 h103 h104 h105 h106 h107 h108 h109 h110 h111 h112 h113 h114
  refine gB_gG [208, 221, 254, 317, 330, 363, 376, 389, 422, 445, 458, 481, 504, 517, 530, 543, 566, 599, 622, 645, 658, 691, 730, 753, 766, 789, 822, 835, 858, 871, 884, 907, 940, 963, 986, 999, 1012, 1025, 1048, 1071, 1085] 12 ?_
  (conv => whnf)
  refine ⟨by omega, ?_⟩
  (conv => whnf)
  refine ⟨fun hb => by exfalso; omega, fun _ => ?_⟩
  (conv => whnf)
  refine ⟨by omega, ?_⟩
  (conv => whnf)
  refine ⟨fun _ => ?_, ?_⟩
  · (conv => whnf)
    exact hd
  · refine gSw_all (fun o ho => ?_)
    have hm := ho
    rcases List.mem_cons.mp hm with rfl | hm
    · (conv => whnf)
      exact (hs _ ho).2
    rcases List.mem_cons.mp hm with rfl | hm
    · (conv => whnf)
      exact (hs _ ho).2
    rcases List.mem_cons.mp hm with rfl | hm
    · (conv => whnf)
      exact (hs _ ho).2
    rcases List.mem_cons.mp hm with rfl | hm
    · (conv => whnf)
      exact (hs _ ho).2
    rcases List.mem_cons.mp hm with rfl | hm
    · (conv => whnf)
      exact (hs _ ho).2
    rcases List.mem_cons.mp hm with rfl | hm
    · (conv => whnf)
      exact (hs _ ho).2
    rcases List.mem_cons.mp hm with rfl | hm
    · (conv => whnf)
      exact (hs _ ho).2
    rcases List.mem_cons.mp hm with rfl | hm
    · (conv => whnf)
      exact (hs _ ho).2
    rcases List.mem_cons.mp hm with rfl | hm
    · (conv => whnf)
      exact (hs _ ho).2
    rcases List.mem_cons.mp hm with rfl | hm
    · (conv => whnf)
      exact (hs _ ho).2
    rcases List.mem_cons.mp hm with rfl | hm
    · (conv => whnf)
      exact (hs _ ho).2
    rcases List.mem_cons.mp hm with rfl | hm
    · (conv => whnf)
      exact (hs _ ho).2
    rcases List.mem_cons.mp hm with rfl | hm
    · (conv => whnf)
      exact (hs _ ho).2
    rcases List.mem_cons.mp hm with rfl | hm
    · (conv => whnf)
      exact (hs _ ho).2
    rcases List.mem_cons.mp hm with rfl | hm
    · (conv => whnf)
      exact (hs _ ho).2
    rcases List.mem_cons.mp hm with rfl | hm
    · (conv => whnf)
      exact (hs _ ho).2
    rcases List.mem_cons.mp hm with rfl | hm
    · (conv => whnf)
      exact (hs _ ho).2
    rcases List.mem_cons.mp hm with rfl | hm
    · (conv => whnf)
      exact (hs _ ho).2
    rcases List.mem_cons.mp hm with rfl | hm
    · (conv => whnf)
      exact (hs _ ho).2
    rcases List.mem_cons.mp hm with rfl | hm
    · (conv => whnf)
      exact (hs _ ho).2
    rcases List.mem_cons.mp hm with rfl | hm
    · (conv => whnf)
      exact (hs _ ho).2
    rcases List.mem_cons.mp hm with rfl | hm
    · (conv => whnf)
      exact (hs _ ho).2
    rcases List.mem_cons.mp hm with rfl | hm
    · (conv => whnf)
      exact (hs _ ho).2
    rcases List.mem_cons.mp hm with rfl | hm
    · (conv => whnf)
      exact (hs _ ho).2
    rcases List.mem_cons.mp hm with rfl | hm
    · (conv => whnf)
      exact (hs _ ho).2
    rcases List.mem_cons.mp hm with rfl | hm
    · (conv => whnf)
      exact (hs _ ho).2
    rcases List.mem_cons.mp hm with rfl | hm
    · (conv => whnf)
      exact (hs _ ho).2
    rcases List.mem_cons.mp hm with rfl | hm
    · (conv => whnf)
      exact (hs _ ho).2
    rcases List.mem_cons.mp hm with rfl | hm
    · (conv => whnf)
      exact (hs _ ho).2
    rcases List.mem_cons.mp hm with rfl | hm
    · (conv => whnf)
      exact (hs _ ho).2
    rcases List.mem_cons.mp hm with rfl | hm
    · (conv => whnf)
      exact (hs _ ho).2
    rcases List.mem_cons.mp hm with rfl | hm
    · (conv => whnf)
      exact (hs _ ho).2
    rcases List.mem_cons.mp hm with rfl | hm
    · (conv => whnf)
      exact (hs _ ho).2
    rcases List.mem_cons.mp hm with rfl | hm
    · (conv => whnf)
      exact (hs _ ho).2
    rcases List.mem_cons.mp hm with rfl | hm
    · (conv => whnf)
      exact (hs _ ho).2
    rcases List.mem_cons.mp hm with rfl | hm
    · (conv => whnf)
      exact (hs _ ho).2
    rcases List.mem_cons.mp hm with rfl | hm
    · (conv => whnf)
      exact (hs _ ho).2
    rcases List.mem_cons.mp hm with rfl | hm
    · (conv => whnf)
      exact (hs _ ho).2
    rcases List.mem_cons.mp hm with rfl | hm
    · (conv => whnf)
      exact (hs _ ho).2
    rcases List.mem_cons.mp hm with rfl | hm
    · (conv => whnf)
      exact (hs _ ho).2
    exact absurd hm List.not_mem_nil
set_option maxRecDepth 100000 in
set_option maxHeartbeats 4000000 in
theorem l_fin {D : Nat} {L i : Int} {X : Int → Int} {μ : MU} (hL : 0 ≤ L ∧ L ≤ 3072) (i1 : L - 6 < i) : gG g_T g_F (gCall g_T g_F D) L X (g_T 227) (fun v _ _ => v = some (gI 1)) 18 [gN 1, gR 0, gR 61, gI i] [] g_SH μ 599919 7298895 := by
  refine gB_gG [] 12 ?_
  (conv => whnf)
  refine ⟨by omega, ?_⟩
  (conv => whnf)
  refine ⟨fun hb => ?_, fun hb => by exfalso; omega⟩
  (conv => whnf)
  exact ⟨Or.inr rfl, rfl⟩
set_option maxRecDepth 100000 in
set_option maxHeartbeats 4000000 in
theorem l_nx {D : Nat} {L i : Int} {X : Int → Int} {μ : MU} (hL : 0 ≤ L ∧ L ≤ 3072) (i0 : 0 ≤ i) (i1 : i ≤ L - 6) (h : gG g_T g_F (gCall g_T g_F D) L X (g_T 227) (fun v _ _ => v = some (gI 1)) 18 [gN 1, gR 0, gR 61, gI (i + 6)] [] g_SH μ 599919 7298895) : gG g_T g_F (gCall g_T g_F D) L X (g_T 227) (fun v _ _ => v = some (gI 1)) 1085 [gN 1, gR 0, gR 61, gI i] [] g_SH μ 599919 7298895 := by
  refine gB_gG [18] 3 ?_
  (conv => whnf)
  refine ⟨by omega, ?_⟩
  (conv => whnf)
  exact h
theorem law_b {D : Nat} (hD : 35 ≤ D) {L : Int} {X : Int → Int} (hL : 0 ≤ L ∧ L ≤ 3072) (hX : ∀ i : Int, 0 ≤ i → i < L → gOk (X i)) : ∀ (n : Nat) (i : Int) (μ : MU), 0 ≤ i → L - i < n → iAll μ → gG g_T g_F (gCall g_T g_F D) L X (g_T 227) (fun v _ _ => v = some (gI 1)) 18 [gN 1, gR 0, gR 61, gI i] [] g_SH μ 599919 7298895
  | 0, i, μ, _, hn, _ => l_fin hL (by omega)
  | n + 1, i, μ, i0, hn, hA => by
    by_cases c : i ≤ L - 6
    · have hd : ∀ ρ : MU, iAll ρ → gG g_T g_F (gCall g_T g_F D) L X (g_T 227) (fun v _ _ => v = some (gI 1)) 1085 [gN 1, gR 0, gR 61, gI i] [] g_SH ρ 599919 7298895 := fun ρ hρ => l_nx hL i0 c (law_b hD hL hX n (i + 6) ρ (by omega) (by omega) hρ)
      exact l_sw hD hL i0 c (l_75 hD hL i0 c hX hA hd) (l_76 hD hL i0 c hX hA hd) (l_77 hD hL i0 c hX hA hd) (l_78 hD hL i0 c hX hA hd) (l_79 hD hL i0 c hX hA hd) (l_80 hD hL i0 c hX hA hd) (l_81 hD hL i0 c hX hA hd) (l_82 hD hL i0 c hX hA hd) (l_83 hD hL i0 c hX hA hd) (l_84 hD hL i0 c hX hA hd) (l_85 hD hL i0 c hX hA hd) (l_86 hD hL i0 c hX hA hd) (l_87 hD hL i0 c hX hA hd) (l_88 hD hL i0 c hX hA hd) (l_89 hD hL i0 c hX hA hd) (l_90 hD hL i0 c hX hA hd) (l_91 hD hL i0 c hX hA hd) (l_92 hD hL i0 c hX hA hd) (l_93 hD hL i0 c hX hA hd) (l_94 hD hL i0 c hX hA hd) (l_95 hD hL i0 c hX hA hd) (l_96 hD hL i0 c hX hA hd) (l_97 hD hL i0 c hX hA hd) (l_98 hD hL i0 c hX hA hd) (l_99 hD hL i0 c hX hA hd) (l_100 hD hL i0 c hX hA hd) (l_101 hD hL i0 c hX hA hd) (l_102 hD hL i0 c hX hA hd) (l_103 hD hL i0 c hX hA hd) (l_104 hD hL i0 c hX hA hd) (l_105 hD hL i0 c hX hA hd) (l_106 hD hL i0 c hX hA hd) (l_107 hD hL i0 c hX hA hd) (l_108 hD hL i0 c hX hA hd) (l_109 hD hL i0 c hX hA hd) (l_110 hD hL i0 c hX hA hd) (l_111 hD hL i0 c hX hA hd) (l_112 hD hL i0 c hX hA hd) (l_113 hD hL i0 c hX hA hd) (l_114 hD hL i0 c hX hA hd) (hd μ hA)
    · exact l_fin hL (by omega)
