/-! the greatest value over a polytope stands at a corner of four of its rows -/
def Fe (rc : Nat) (A : Nat → Nat → Int) (y : Nat → Int) (Y : Int) : Prop := ∀ r, r < rc → dot4 (A r) y ≤ A r 4 * Y
theorem ratio_min {num den : Nat → Int} : ∀ rc, (∃ r, r < rc ∧ 0 < den r) → ∃ s, s < rc ∧ 0 < den s ∧ ∀ r, r < rc → 0 < den r → num s * den r ≤ num r * den s
  | 0, h => by obtain ⟨r, hr, _⟩ := h; exact absurd hr (Nat.not_lt_zero r)
  | rc + 1, h => by
    by_cases e : ∃ r, r < rc ∧ 0 < den r
    · obtain ⟨s, s1, s2, s3⟩ := ratio_min (num := num) (den := den) rc e
      by_cases c : 0 < den rc ∧ num rc * den s < num s * den rc
      · refine ⟨rc, by omega, c.1, fun r hr hd => ?_⟩
        by_cases er : r = rc
        · rw [er]; exact Int.le_refl _
        · have h1 := s3 r (by omega) hd
          have h2 : num rc * den s * den r ≤ num s * den rc * den r := Int.mul_le_mul_of_nonneg_right (Int.le_of_lt c.2) (by omega)
          have h3 : num s * den r * den rc ≤ num r * den s * den rc := Int.mul_le_mul_of_nonneg_right h1 (by omega)
          have e1 : num rc * den s * den r = num rc * den r * den s := by grind
          have e2 : num s * den rc * den r = num s * den r * den rc := by grind
          have e3 : num r * den s * den rc = num r * den rc * den s := by grind
          exact Int.le_of_mul_le_mul_right (a := den s) (by omega) s2
      · refine ⟨s, by omega, s2, fun r hr hd => ?_⟩
        by_cases er : r = rc
        · subst er
          apply Int.not_lt.mp
          intro z
          exact c ⟨hd, z⟩
        · exact s3 r (by omega) hd
    · obtain ⟨r, r1, r2⟩ := h
      have er : r = rc := by
        apply Classical.byContradiction
        intro z
        exact e ⟨r, by omega, r2⟩
      subst er
      refine ⟨r, by omega, r2, fun r' hr' hd => ?_⟩
      have : r' = r := by
        apply Classical.byContradiction
        intro z
        exact e ⟨r', by omega, hd⟩
      rw [this]
      exact Int.le_refl _
theorem dot4_mv (a y z : Nat → Int) (D N : Int) : dot4 a (fun k => y k * D + N * z k) = dot4 a y * D + N * dot4 a z := by
  simp only [dot4]
  grind
theorem dot4_sc (a z : Nat → Int) (s : Int) : dot4 a (fun k => s * z k) = s * dot4 a z := by
  simp only [dot4]
  grind
theorem dot4_cm (a z : Nat → Int) : dot4 a z = dot4 z a := by
  simp only [dot4]
  grind
def lb (A : Nat → Nat → Int) (t : Nat) (idx : Nat → Nat) (j : Nat) : Nat → Int := if j < t then A (idx j) else fun k => if k = j then 1 else 0
def LPS (rc : Nat) (A : Nat → Nat → Int) (d y0 : Nat → Int) (Y0 : Int) (t : Nat) : Prop := ∃ (idx : Nat → Nat) (y : Nat → Int) (Y : Int), Det4 (lb A t idx) ≠ 0 ∧ 0 < Y ∧ Fe rc A y Y ∧ (∀ j, j < t → idx j < rc ∧ dot4 (A (idx j)) y = A (idx j) 4 * Y) ∧ dot4 d y0 * Y ≤ dot4 d y * Y0
theorem lps_step {rc : Nat} {A : Nat → Nat → Int} {d y0 : Nat → Int} {Y0 : Int} (hY0 : 0 < Y0) (hB : ∀ z : Nat → Int, (∃ k, k < 4 ∧ z k ≠ 0) → ∃ r, r < rc ∧ 0 < dot4 (A r) z) {t : Nat} (ht : t < 4) (h : LPS rc A d y0 Y0 t) : LPS rc A d y0 Y0 (t + 1) := by
  obtain ⟨idx, y, Y, hD, hY, hF, hT, hO⟩ := h
  -- the direction
  have hz : ∃ (σ : Int), (σ = 1 ∨ σ = -1) ∧ 0 ≤ dot4 d (fun k => σ * Adj (lb A t idx) t k) := by
    by_cases c : 0 ≤ dot4 d (Adj (lb A t idx) t)
    · exact ⟨1, Or.inl rfl, by rw [dot4_sc]; omega⟩
    · exact ⟨-1, Or.inr rfl, by rw [dot4_sc]; omega⟩
  obtain ⟨σ, hσ, hdz⟩ := hz
  have hσ0 : σ ≠ 0 := by omega
  generalize hzz : (fun k => σ * Adj (lb A t idx) t k) = z at hdz
  have hzk : ∀ a : Nat → Int, dot4 a z = σ * dot4 (Adj (lb A t idx) t) a := by
    intro a
    rw [← hzz, dot4_sc, dot4_cm]
  have hne : ∃ k, k < 4 ∧ z k ≠ 0 := by
    apply Classical.byContradiction
    intro hno
    have h0 : ∀ k, k < 4 → z k = 0 := fun k hk => Classical.byContradiction (fun c => hno ⟨k, hk, c⟩)
    have h1 := hzk (lb A t idx t)
    rw [adj_self _ t ht] at h1
    have h2 : dot4 (lb A t idx t) z = 0 := by
      simp only [dot4]
      rw [h0 0 (by decide), h0 1 (by decide), h0 2 (by decide), h0 3 (by decide)]
      simp
    rw [h2] at h1
    rcases Int.mul_eq_zero.mp h1.symm with a | a
    · exact hσ0 a
    · exact hD a
  obtain ⟨s, s1, s2, s3⟩ := ratio_min (num := fun r => A r 4 * Y - dot4 (A r) y) (den := fun r => dot4 (A r) z) rc (hB z hne)
  have s2 : 0 < dot4 (A s) z := s2
  have hN : 0 ≤ A s 4 * Y - dot4 (A s) y := by have := hF s s1; omega
  generalize hNs : A s 4 * Y - dot4 (A s) y = N at hN
  generalize hDs : dot4 (A s) z = Ds at s2
  have hup : lb A (t + 1) (va_up idx t s) = va_up (lb A t idx) t (A s) := by
    funext j
    unfold lb va_up
    by_cases c : j = t
    · subst c
      rw [if_pos (by omega), if_pos rfl, if_pos rfl]
    · rw [if_neg c, if_neg c]
      by_cases c2 : j < t
      · rw [if_pos (by omega)]
        exact (if_pos c2).symm
      · rw [if_neg (by omega)]
        exact (if_neg c2).symm
  have horth : ∀ j, j < t → dot4 (A (idx j)) z = 0 := by
    intro j hj
    rw [hzk]
    have h1 := adj_oth (lb A t idx) t ht j (by omega) (by omega)
    have h2 : lb A t idx j = A (idx j) := if_pos hj
    rw [h2] at h1
    rw [h1, Int.mul_zero]
  refine ⟨va_up idx t s, fun k => y k * Ds + N * z k, Y * Ds, ?_, Int.mul_pos hY s2, fun r hr => ?_, fun j hj => ?_, ?_⟩
  · rw [hup, det_rep _ _ t ht]
    intro h0
    have h1 := hzk (A s)
    rw [h0, Int.mul_zero, hDs] at h1
    omega
  · rw [dot4_mv]
    have hr1 := hF r hr
    have e1 : A r 4 * (Y * Ds) = A r 4 * Y * Ds := by rw [Int.mul_assoc]
    rw [e1]
    by_cases c : 0 < dot4 (A r) z
    · have h3 : (A s 4 * Y - dot4 (A s) y) * dot4 (A r) z ≤ (A r 4 * Y - dot4 (A r) y) * dot4 (A s) z := s3 r hr c
      rw [hNs, hDs, Int.sub_mul] at h3
      omega
    · have h3 : N * dot4 (A r) z ≤ 0 := Int.mul_nonpos_of_nonneg_of_nonpos hN (by omega)
      have h4 := Int.mul_le_mul_of_nonneg_right hr1 (Int.le_of_lt s2)
      omega
  · rw [dot4_mv]
    by_cases c : j = t
    · subst c
      rw [show va_up idx j s j = s from if_pos rfl]
      refine ⟨s1, ?_⟩
      rw [hDs, ← hNs, Int.sub_mul, ← Int.mul_assoc]
      omega
    · rw [show va_up idx t s j = idx j from if_neg c]
      have h1 := hT j (by omega)
      refine ⟨h1.1, ?_⟩
      rw [horth j (by omega), h1.2, Int.mul_zero, Int.add_zero, Int.mul_assoc]
  · rw [dot4_mv]
    have h1 := Int.mul_le_mul_of_nonneg_right hO (Int.le_of_lt s2)
    have h2 : 0 ≤ N * dot4 d z * Y0 := Int.mul_nonneg (Int.mul_nonneg hN hdz) (Int.le_of_lt hY0)
    have e1 : dot4 d y0 * (Y * Ds) = dot4 d y0 * Y * Ds := by rw [Int.mul_assoc]
    have e2 : (dot4 d y * Ds + N * dot4 d z) * Y0 = dot4 d y * Y0 * Ds + N * dot4 d z * Y0 := by grind
    rw [e1, e2]
    omega
theorem lps_all {rc : Nat} {A : Nat → Nat → Int} {d y0 : Nat → Int} {Y0 : Int} (hY0 : 0 < Y0) (hB : ∀ z : Nat → Int, (∃ k, k < 4 ∧ z k ≠ 0) → ∃ r, r < rc ∧ 0 < dot4 (A r) z) (hF : Fe rc A y0 Y0) : LPS rc A d y0 Y0 4 := by
  refine lps_step hY0 hB (by decide) (lps_step hY0 hB (by decide) (lps_step hY0 hB (by decide) (lps_step hY0 hB (by decide) ?_)))
  refine ⟨fun _ => 0, y0, Y0, ?_, hY0, hF, fun j hj => absurd hj (Nat.not_lt_zero j), Int.le_refl _⟩
  have : Det4 (lb A 0 fun _ => 0) = 1 := by
    simp [Det4, dot4, X4, d3, lb]
  rw [this]
  decide
/-! Cramer's rule -/
def cR (b : Nat → Nat → Int) (c : Nat) : Nat → Nat → Int := fun i j => if j = c then b i 4 else b i j
theorem cr_adj (b : Nat → Nat → Int) : ∀ c, c < 4 → Det4 (cR b c) = b 0 4 * Adj b 0 c + b 1 4 * Adj b 1 c + b 2 4 * Adj b 2 c + b 3 4 * Adj b 3 c := by
  apply all4 <;> simp [Det4, dot4, X4, d3, cR, Adj] <;> grind
theorem adj_cl (b : Nat → Nat → Int) : ∀ c, c < 4 → ∀ k, k < 4 → Adj b 0 c * b 0 k + Adj b 1 c * b 1 k + Adj b 2 c * b 2 k + Adj b 3 c * b 3 k = if k = c then Det4 b else 0 := by
  intro c hc k hk
  have h := adj_rec b (fun j => if j = c then 1 else 0) k hk
  have e : ∀ i, dot4 (Adj b i) (fun j => if j = c then 1 else 0) = Adj b i c := by
    intro i
    revert c
    intro c hc _
    revert c
    apply all4 <;> simp [dot4]
  rw [e, e, e, e] at h
  rw [h]
  split
  · rw [Int.mul_one]
  · rw [Int.mul_zero]
theorem cramer {b : Nat → Nat → Int} {y : Nat → Int} {Y : Int} (h : ∀ i, i < 4 → dot4 (b i) y = b i 4 * Y) : ∀ c, c < 4 → Det4 (cR b c) * Y = Det4 b * y c := by
  intro c hc
  rw [cr_adj b c hc]
  have h0 := h 0 (by decide)
  have h1 := h 1 (by decide)
  have h2 := h 2 (by decide)
  have h3 := h 3 (by decide)
  have a0 := adj_cl b c hc 0 (by decide)
  have a1 := adj_cl b c hc 1 (by decide)
  have a2 := adj_cl b c hc 2 (by decide)
  have a3 := adj_cl b c hc 3 (by decide)
  have key : Det4 b * y c = (if 0 = c then Det4 b else 0) * y 0 + (if 1 = c then Det4 b else 0) * y 1 + (if 2 = c then Det4 b else 0) * y 2 + (if 3 = c then Det4 b else 0) * y 3 := by
    revert c
    intro c hc _ _ _ _
    match c, hc with
    | 0, _ => simp
    | 1, _ => simp
    | 2, _ => simp
    | 3, _ => simp
  rw [key, ← a0, ← a1, ← a2, ← a3]
  simp only [dot4] at h0 h1 h2 h3
  generalize Adj b 0 c = p0
  generalize Adj b 1 c = p1
  generalize Adj b 2 c = p2
  generalize Adj b 3 c = p3
  have e0 : b 0 4 * p0 * Y = p0 * (b 0 4 * Y) := by grind
  have e1 : b 1 4 * p1 * Y = p1 * (b 1 4 * Y) := by grind
  have e2 : b 2 4 * p2 * Y = p2 * (b 2 4 * Y) := by grind
  have e3 : b 3 4 * p3 * Y = p3 * (b 3 4 * Y) := by grind
  rw [Int.add_mul, Int.add_mul, Int.add_mul, e0, e1, e2, e3, ← h0, ← h1, ← h2, ← h3]
  grind
/-! sorted rows -/
def dA (A : Nat → Nat → Int) (i j k l : Nat) : Int := Det4 (fun x => if x = 0 then A i else if x = 1 then A j else if x = 2 then A k else A l)
theorem dA_01 (A : Nat → Nat → Int) (i j k l : Nat) : dA A j i k l = -dA A i j k l := by
  simp [dA, Det4, dot4, X4, d3]
  grind
theorem dA_12 (A : Nat → Nat → Int) (i j k l : Nat) : dA A i k j l = -dA A i j k l := by
  simp [dA, Det4, dot4, X4, d3]
  grind
theorem dA_23 (A : Nat → Nat → Int) (i j k l : Nat) : dA A i j l k = -dA A i j k l := by
  simp [dA, Det4, dot4, X4, d3]
  grind
theorem dA_eq1 (A : Nat → Nat → Int) (i k l : Nat) : dA A i i k l = 0 := by have := dA_01 A i i k l; omega
theorem dA_eq2 (A : Nat → Nat → Int) (i j l : Nat) : dA A i j j l = 0 := by have := dA_12 A i j j l; omega
theorem dA_eq3 (A : Nat → Nat → Int) (i j k : Nat) : dA A i j k k = 0 := by have := dA_23 A i j k k; omega
/-- any four rows with a property and a determinant that is not 0, in order -/
theorem dA_sort {A : Nat → Nat → Int} {P : Nat → Prop} {i j k l : Nat} (h : dA A i j k l ≠ 0) (hi : P i) (hj : P j) (hk : P k) (hl : P l) : ∃ i j k l, i < j ∧ j < k ∧ k < l ∧ P i ∧ P j ∧ P k ∧ P l ∧ dA A i j k l ≠ 0 := by
  have w1 : ∀ {i j k l : Nat}, dA A i j k l ≠ 0 → dA A j i k l ≠ 0 := fun h z => h (by rw [dA_01, z]; rfl)
  have w2 : ∀ {i j k l : Nat}, dA A i j k l ≠ 0 → dA A i k j l ≠ 0 := fun h z => h (by rw [dA_12, z]; rfl)
  have w3 : ∀ {i j k l : Nat}, dA A i j k l ≠ 0 → dA A i j l k ≠ 0 := fun h z => h (by rw [dA_23, z]; rfl)
  have n1 : ∀ {i j k l : Nat}, dA A i j k l ≠ 0 → i ≠ j := fun h z => h (by rw [z]; exact dA_eq1 A _ _ _)
  have n2 : ∀ {i j k l : Nat}, dA A i j k l ≠ 0 → j ≠ k := fun h z => h (by rw [z]; exact dA_eq2 A _ _ _)
  have n3 : ∀ {i j k l : Nat}, dA A i j k l ≠ 0 → k ≠ l := fun h z => h (by rw [z]; exact dA_eq3 A _ _ _)
  have S1 : ∀ {i j k l : Nat}, dA A i j k l ≠ 0 → i < j → j < k → P i → P j → P k → P l → ∃ i j k l, i < j ∧ j < k ∧ k < l ∧ P i ∧ P j ∧ P k ∧ P l ∧ dA A i j k l ≠ 0 := by
    intro i j k l h h1 h2 hi hj hk hl
    have m3 := n3 h
    by_cases c1 : k < l
    · exact ⟨i, j, k, l, h1, h2, c1, hi, hj, hk, hl, h⟩
    have h' := w3 h
    have m2 := n2 h'
    by_cases c2 : j < l
    · exact ⟨i, j, l, k, h1, c2, by omega, hi, hj, hl, hk, h'⟩
    have h'' := w2 h'
    have m1 := n1 h''
    by_cases c3 : i < l
    · exact ⟨i, l, j, k, c3, by omega, h2, hi, hl, hj, hk, h''⟩
    · exact ⟨l, i, j, k, by omega, h1, h2, hl, hi, hj, hk, w1 h''⟩
  have S2 : ∀ {i j k l : Nat}, dA A i j k l ≠ 0 → i < j → P i → P j → P k → P l → ∃ i j k l, i < j ∧ j < k ∧ k < l ∧ P i ∧ P j ∧ P k ∧ P l ∧ dA A i j k l ≠ 0 := by
    intro i j k l h h1 hi hj hk hl
    have m2 := n2 h
    by_cases c1 : j < k
    · exact S1 h h1 c1 hi hj hk hl
    have h' := w2 h
    have m1 := n1 h'
    by_cases c2 : i < k
    · exact S1 h' c2 (by omega) hi hk hj hl
    · exact S1 (w1 h') (by omega) h1 hk hi hj hl
  have m1 := n1 h
  by_cases c : i < j
  · exact S2 h c hi hj hk hl
  · exact S2 (w1 h) (by omega) hj hi hk hl
def r4 (A : Nat → Nat → Int) (i j k l : Nat) : Nat → Nat → Int := fun x => if x = 0 then A i else if x = 1 then A j else if x = 2 then A k else A l
/-- what a search over all four rows must have met -/
theorem vertex {rc : Nat} {A : Nat → Nat → Int} {d y0 : Nat → Int} {Y0 : Int} (hY0 : 0 < Y0) (hB : ∀ z : Nat → Int, (∃ k, k < 4 ∧ z k ≠ 0) → ∃ r, r < rc ∧ 0 < dot4 (A r) z) (hF : Fe rc A y0 Y0) :
    ∃ i j k l, i < j ∧ j < k ∧ k < l ∧ l < rc ∧ ∃ σ : Int, (σ = 1 ∨ σ = -1) ∧ 0 < σ * Det4 (r4 A i j k l) ∧ Fe rc A (fun c => σ * Det4 (cR (r4 A i j k l) c)) (σ * Det4 (r4 A i j k l)) ∧ dot4 d y0 * (σ * Det4 (r4 A i j k l)) ≤ dot4 d (fun c => σ * Det4 (cR (r4 A i j k l) c)) * Y0 := by
  obtain ⟨idx, y, Y, hD, hY, hF', hT, hO⟩ := lps_all (d := d) hY0 hB hF
  have h0 : dA A (idx 0) (idx 1) (idx 2) (idx 3) ≠ 0 := by
    intro z
    apply hD
    rw [← z]
    rfl
  obtain ⟨i, j, k, l, h1, h2, h3, pi, pj, pk, pl, hd⟩ := dA_sort (P := fun r => r < rc ∧ dot4 (A r) y = A r 4 * Y) h0 (hT 0 (by decide)) (hT 1 (by decide)) (hT 2 (by decide)) (hT 3 (by decide))
  refine ⟨i, j, k, l, h1, h2, h3, pl.1, ?_⟩
  have hd : Det4 (r4 A i j k l) ≠ 0 := hd
  have hcr := cramer (b := r4 A i j k l) (y := y) (Y := Y) (all4 pi.2 pj.2 pk.2 pl.2)
  have hs : ∃ σ : Int, (σ = 1 ∨ σ = -1) ∧ 0 < σ * Det4 (r4 A i j k l) := by
    by_cases c : 0 < Det4 (r4 A i j k l)
    · exact ⟨1, Or.inl rfl, by omega⟩
    · exact ⟨-1, Or.inr rfl, by omega⟩
  obtain ⟨σ, s1, s2⟩ := hs
  generalize Det4 (r4 A i j k l) = Dd at *
  have hdot : ∀ a : Nat → Int, dot4 a (fun c => σ * Det4 (cR (r4 A i j k l) c)) * Y = σ * Dd * dot4 a y := by
    intro a
    have c0 := hcr 0 (by decide)
    have c1 := hcr 1 (by decide)
    have c2 := hcr 2 (by decide)
    have c3 := hcr 3 (by decide)
    simp only [dot4]
    generalize Det4 (cR (r4 A i j k l) 0) = q0 at *
    generalize Det4 (cR (r4 A i j k l) 1) = q1 at *
    generalize Det4 (cR (r4 A i j k l) 2) = q2 at *
    generalize Det4 (cR (r4 A i j k l) 3) = q3 at *
    have e0 : a 0 * (σ * q0) * Y = a 0 * σ * (q0 * Y) := by grind
    have e1 : a 1 * (σ * q1) * Y = a 1 * σ * (q1 * Y) := by grind
    have e2 : a 2 * (σ * q2) * Y = a 2 * σ * (q2 * Y) := by grind
    have e3 : a 3 * (σ * q3) * Y = a 3 * σ * (q3 * Y) := by grind
    rw [Int.add_mul, Int.add_mul, Int.add_mul, e0, e1, e2, e3, c0, c1, c2, c3]
    grind
  refine ⟨σ, s1, s2, fun r hr => ?_, ?_⟩
  · apply Int.le_of_mul_le_mul_right (a := Y) ?_ hY
    rw [hdot]
    have := Int.mul_le_mul_of_nonneg_left (hF' r hr) (Int.le_of_lt s2)
    have e : A r 4 * (σ * Dd) * Y = σ * Dd * (A r 4 * Y) := by grind
    rw [e]
    exact this
  · apply Int.le_of_mul_le_mul_right (a := Y) ?_ hY
    have e : dot4 d (fun c => σ * Det4 (cR (r4 A i j k l) c)) * Y0 * Y = dot4 d (fun c => σ * Det4 (cR (r4 A i j k l) c)) * Y * Y0 := by grind
    rw [e, hdot]
    have := Int.mul_le_mul_of_nonneg_left hO (Int.le_of_lt s2)
    have e1 : dot4 d y0 * (σ * Dd) * Y = σ * Dd * (dot4 d y0 * Y) := by grind
    have e2 : σ * Dd * dot4 d y * Y0 = σ * Dd * (dot4 d y * Y0) := by grind
    rw [e1, e2]
    exact this
