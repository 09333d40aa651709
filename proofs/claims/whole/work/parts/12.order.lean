/-! the best plan: the first pattern in ORDER that leaves a rest for one roll less -/
def vsub (v p : Nat → Nat) : Nat → Nat := fun k => v k - p k
def eq4 (p g : Nat → Nat) : Prop := ∀ k, k < 4 → p k = g k
/-- p stands behind g in ORDER, by their first m kinds -/
def LtX (p g : Nat → Nat) : Nat → Prop
  | 0 => False
  | m + 1 => LtX p g m ∨ ((∀ j, j < m → p j = g j) ∧ p m < g m)
def bcN (p : Nat → Nat) : Nat := 343 * p 0 + 49 * p 1 + 7 * p 2 + p 3
theorem ltx_ex {p g : Nat → Nat} : ∀ m, LtX p g m → ∃ j, j < m ∧ (∀ i, i < j → p i = g i) ∧ p j < g j
  | 0, h => absurd h id
  | m + 1, h => by
    rcases h with h | ⟨h1, h2⟩
    · obtain ⟨j, a, b, c⟩ := ltx_ex m h
      exact ⟨j, by omega, b, c⟩
    · exact ⟨m, by omega, h1, h2⟩
theorem ltx_of {p g : Nat → Nat} {j : Nat} (h1 : ∀ i, i < j → p i = g i) (h2 : p j < g j) : ∀ m, j < m → LtX p g m
  | 0, h => absurd h (Nat.not_lt_zero j)
  | m + 1, h => by
    by_cases e : j = m
    · subst e
      exact Or.inr ⟨h1, h2⟩
    · exact Or.inl (ltx_of h1 h2 m (by omega))
theorem ltx_bc {p g : Nat → Nat} (hp : ∀ k, k < 4 → p k ≤ 6) (h : LtX p g 4) : bcN p < bcN g := by
  obtain ⟨j, h1, h2, h3⟩ := ltx_ex 4 h
  have a0 := hp 0 (by omega)
  have a1 := hp 1 (by omega)
  have a2 := hp 2 (by omega)
  have a3 := hp 3 (by omega)
  unfold bcN
  match j, h1 with
  | 0, _ => omega
  | 1, _ => have := h2 0 (by omega); omega
  | 2, _ => have := h2 0 (by omega); have := h2 1 (by omega); omega
  | 3, _ => have := h2 0 (by omega); have := h2 1 (by omega); have := h2 2 (by omega); omega
theorem bc_ltx {p g : Nat → Nat} (hg : ∀ k, k < 4 → g k ≤ 6) (hp : ∀ k, k < 4 → p k ≤ 6) (h : bcN p < bcN g) : LtX p g 4 := by
  have a0 := hg 0 (by omega)
  have a1 := hg 1 (by omega)
  have a2 := hg 2 (by omega)
  have a3 := hg 3 (by omega)
  have b0 := hp 0 (by omega)
  have b1 := hp 1 (by omega)
  have b2 := hp 2 (by omega)
  have b3 := hp 3 (by omega)
  unfold bcN at h
  by_cases e0 : p 0 = g 0
  · by_cases e1 : p 1 = g 1
    · by_cases e2 : p 2 = g 2
      · exact ltx_of (j := 3) (fun i hi => by
          match i, hi with
          | 0, _ => exact e0
          | 1, _ => exact e1
          | 2, _ => exact e2) (by omega) 4 (by omega)
      · exact ltx_of (j := 2) (fun i hi => by
          match i, hi with
          | 0, _ => exact e0
          | 1, _ => exact e1) (by omega) 4 (by omega)
    · exact ltx_of (j := 1) (fun i hi => by
        match i, hi with
        | 0, _ => exact e0) (by omega) 4 (by omega)
  · exact ltx_of (j := 0) (fun i hi => absurd hi (Nat.not_lt_zero i)) (by omega) 4 (by omega)
theorem bc_eq {p g : Nat → Nat} (hg : ∀ k, k < 4 → g k ≤ 6) (hp : ∀ k, k < 4 → p k ≤ 6) (h : bcN p = bcN g) : eq4 p g := by
  have a0 := hg 0 (by omega)
  have a1 := hg 1 (by omega)
  have a2 := hg 2 (by omega)
  have a3 := hg 3 (by omega)
  have b0 := hp 0 (by omega)
  have b1 := hp 1 (by omega)
  have b2 := hp 2 (by omega)
  have b3 := hp 3 (by omega)
  unfold bcN at h
  apply all4 <;> omega
theorem ltx_congr {p g p' g' : Nat → Nat} (hp : eq4 p p') (hg : eq4 g g') (h : LtX p g 4) : LtX p' g' 4 := by
  obtain ⟨j, h1, h2, h3⟩ := ltx_ex 4 h
  exact ltx_of (j := j) (fun i hi => by rw [← hp i (by omega), ← hg i (by omega)]; exact h2 i hi) (by rw [← hp j h1, ← hg j h1]; exact h3) 4 h1
/-- the sum of the first k kinds' widths -/
def ps (w p : Nat → Nat) : Nat → Nat
  | 0 => 0
  | k + 1 => ps w p k + p k * w k
theorem ps_wt {w p : Nat → Nat} : ps w p 4 = wt w p := by
  simp only [ps, wt]
  omega
theorem ps_zero {w p : Nat → Nat} {n : Nat} (h : ∀ k, n ≤ k → k < 4 → p k = 0) : ∀ m, n + m ≤ 4 → ps w p (n + m) = ps w p n
  | 0, _ => rfl
  | m + 1, hm => by
    show ps w p (n + m) + p (n + m) * w (n + m) = _
    rw [h (n + m) (by omega) (by omega), Nat.zero_mul, Nat.add_zero]
    exact ps_zero h m (by omega)
theorem ps_n {w p : Nat → Nat} {n : Nat} (hn : n ≤ 4) (h : ∀ k, n ≤ k → k < 4 → p k = 0) : ps w p n = wt w p := by
  rw [← ps_wt, ← ps_zero (w := w) h (4 - n) (by omega), show n + (4 - n) = 4 by omega]
theorem ps_mono {w p g : Nat → Nat} : ∀ k, (∀ j, j < k → p j ≤ g j) → ps w p k ≤ ps w g k
  | 0, _ => Nat.le_refl _
  | k + 1, h => Nat.add_le_add (ps_mono k (fun j hj => h j (by omega))) (Nat.mul_le_mul_right _ (h k (by omega)))
theorem ps_le {w p : Nat → Nat} : ∀ m k, ps w p k ≤ ps w p (k + m)
  | 0, _ => Nat.le_refl _
  | m + 1, k => Nat.le_trans (ps_le m k) (Nat.le_add_right _ _)
theorem ps_congr {w p g : Nat → Nat} : ∀ k, (∀ j, j < k → p j = g j) → ps w p k = ps w g k
  | 0, _ => rfl
  | k + 1, h => by
    show ps w p k + p k * w k = ps w g k + g k * w k
    rw [ps_congr k (fun j hj => h j (by omega)), h k (by omega)]
theorem ffI_val (W : Nat) (w re : Nat → Nat) (fi : Nat) (pa : Nat → Nat) : ∀ k j, j < k → (ffI W w re fi pa k).1 j = if fi ≤ j then min (re j) ((ffI W w re fi pa j).2 / w j) else pa j
  | 0, j, h => absurd h (Nat.not_lt_zero j)
  | k + 1, j, h => by
    by_cases e : j = k
    · subst e
      conv => lhs; unfold ffI
      split
      · rw [show (va_up (ffI W w re fi pa j).1 j (min (re j) ((ffI W w re fi pa j).2 / w j)), (ffI W w re fi pa j).2 - min (re j) ((ffI W w re fi pa j).2 / w j) * w j).1 j = _ from if_pos rfl]
      · exact ffI_keep W w re fi pa j j (by omega)
    · have ih := ffI_val W w re fi pa k j (by omega)
      rw [← ih]
      conv => lhs; unfold ffI
      split
      · exact if_neg e
      · rfl
theorem ffI_pre (W : Nat) (w re : Nat → Nat) (fi : Nat) (pa : Nat → Nat) : ∀ k, k ≤ fi → (ffI W w re fi pa k).2 = W - ps w pa k
  | 0, _ => rfl
  | k + 1, h => by
    unfold ffI
    rw [if_neg (by omega)]
    show (ffI W w re fi pa k).2 - (ffI W w re fi pa k).1 k * w k = W - (ps w pa k + pa k * w k)
    rw [ffI_pre W w re fi pa k (by omega), ffI_keep W w re fi pa k k (by omega), Nat.sub_sub]
theorem ffI_sum (W : Nat) (w re : Nat → Nat) (fi : Nat) (pa : Nat → Nat) (n : Nat) (hp : ∀ k, k < fi → k < n → ps w pa (k + 1) ≤ W) : ∀ k, k ≤ n → ps w (ffI W w re fi pa n).1 k + (ffI W w re fi pa k).2 = W
  | 0, _ => Nat.zero_add W
  | k + 1, h => by
    have ih := ffI_sum W w re fi pa n hp k (by omega)
    have hv := ffI_val W w re fi pa n k (by omega)
    show ps w (ffI W w re fi pa n).1 k + (ffI W w re fi pa n).1 k * w k + (ffI W w re fi pa (k + 1)).2 = W
    by_cases e : fi ≤ k
    · have e0 : (ffI W w re fi pa (k + 1)).2 = (ffI W w re fi pa k).2 - min (re k) ((ffI W w re fi pa k).2 / w k) * w k := by
        rw [show ffI W w re fi pa (k + 1) = _ from if_pos e]
      have hmul : min (re k) ((ffI W w re fi pa k).2 / w k) * w k ≤ (ffI W w re fi pa k).2 := Nat.le_trans (Nat.mul_le_mul_right _ (Nat.min_le_right _ _)) (Nat.div_mul_le_self _ _)
      rw [hv, if_pos e, e0]
      omega
    · have e0 : (ffI W w re fi pa (k + 1)).2 = (ffI W w re fi pa k).2 - (ffI W w re fi pa k).1 k * w k := by
        rw [show ffI W w re fi pa (k + 1) = _ from if_neg e]
      have h1 := hp k (by omega) (by omega)
      have h2 := ffI_pre W w re fi pa k (by omega)
      have h3 := ffI_keep W w re fi pa k k (by omega)
      have h4 : ps w pa (k + 1) = ps w pa k + pa k * w k := rfl
      rw [hv, if_neg e, e0, h3]
      omega
/-- the greedy filling is the first in ORDER -/
theorem ffI_first {W : Nat} {w re : Nat → Nat} {fi : Nat} {pa : Nat → Nat} {n : Nat} (hw : ∀ k, k < n → 1 ≤ w k) (hp : ∀ k, k < fi → k < n → ps w pa (k + 1) ≤ W) {g : Nat → Nat} (hg : ∀ k, k < n → g k ≤ re k) (hgw : ps w g n ≤ W) (hgp : ∀ k, k < fi → k < n → g k = pa k) : ∀ k, k ≤ n → LtX g (ffI W w re fi pa n).1 k ∨ ∀ j, j < k → g j = (ffI W w re fi pa n).1 j
  | 0, _ => Or.inr (fun j hj => absurd hj (Nat.not_lt_zero j))
  | k + 1, h => by
    rcases ffI_first hw hp hg hgw hgp k (by omega) with ih | ih
    · exact Or.inl (Or.inl ih)
    · have hv := ffI_val W w re fi pa n k (by omega)
      have hs := ffI_sum W w re fi pa n hp k (by omega)
      by_cases e : fi ≤ k
      · rw [if_pos e] at hv
        have h1 : ps w g (k + 1) ≤ W := Nat.le_trans (by have := ps_le (w := w) (p := g) (n - (k + 1)) (k + 1); rw [show k + 1 + (n - (k + 1)) = n by omega] at this; exact this) hgw
        have h2 : ps w g (k + 1) = ps w g k + g k * w k := rfl
        rw [h2, ps_congr k ih] at h1
        have h3 : g k ≤ (ffI W w re fi pa k).2 / w k := by
          rw [Nat.le_div_iff_mul_le (hw k (by omega))]
          omega
        have h4 : g k ≤ (ffI W w re fi pa n).1 k := by
          rw [hv]
          exact Nat.le_min.mpr ⟨hg k (by omega), h3⟩
        by_cases e2 : g k = (ffI W w re fi pa n).1 k
        · exact Or.inr (fun j hj => by
            by_cases ej : j = k
            · rw [ej]; exact e2
            · exact ih j (by omega))
        · exact Or.inl (Or.inr ⟨ih, by omega⟩)
      · rw [if_neg e] at hv
        exact Or.inr (fun j hj => by
          by_cases ej : j = k
          · rw [ej, hv]; exact hgp k (by omega) (by omega)
          · exact ih j (by omega))
/-- a pattern of the kinds that there are -/
def Pat (W n : Nat) (w p : Nat → Nat) : Prop := Cnt n p ∧ ps w p n ≤ W
section ORD
variable {W n : Nat} {w re pa : Nat → Nat}
theorem ltx_up {g p : Nat → Nat} (hn : n ≤ 4) (hg : ∀ k, n ≤ k → k < 4 → g k = 0) (hp : ∀ k, n ≤ k → k < 4 → p k = 0) (h : LtX g p n ∨ ∀ j, j < n → g j = p j) : LtX g p 4 ∨ eq4 g p := by
  rcases h with h | h
  · obtain ⟨j, h1, h2, h3⟩ := ltx_ex n h
    exact Or.inl (ltx_of h2 h3 4 (by omega))
  · refine Or.inr (fun k hk => ?_)
    by_cases e : k < n
    · exact h k e
    · rw [hg k (by omega) hk, hp k (by omega) hk]
theorem ffI_pat {fi : Nat} (hn : n ≤ 4) (hre : ∀ k, k < 4 → re k ≤ 6) (hpa : Cnt n pa) (hp : ∀ k, k < fi → k < n → ps w pa (k + 1) ≤ W) : Pat W n w (ffI W w re fi pa n).1 := by
  refine ⟨⟨fun k hk => ?_, fun k h1 h2 => ?_⟩, ?_⟩
  · by_cases e : k < n
    · rw [ffI_val W w re fi pa n k e]
      split
      · exact Nat.le_trans (Nat.min_le_left _ _) (hre k hk)
      · exact hpa.1 k hk
    · rw [ffI_keep W w re fi pa n k (by omega)]
      exact hpa.1 k hk
  · rw [ffI_keep W w re fi pa n k (by omega)]
    exact hpa.2 k h1 h2
  · have := ffI_sum W w re fi pa n hp n (Nat.le_refl n)
    omega
/-- the last kind that a row of counts has -/
theorem last_ex {p : Nat → Nat} : ∀ m, (∀ k, k < m → p k = 0) ∨ ∃ K, K < m ∧ 0 < p K ∧ ∀ k, K < k → k < m → p k = 0
  | 0 => Or.inl (fun k hk => absurd hk (Nat.not_lt_zero k))
  | m + 1 => by
    by_cases e : 0 < p m
    · exact Or.inr ⟨m, by omega, e, fun k h1 h2 => absurd h1 (by omega)⟩
    · rcases last_ex m (p := p) with h | ⟨K, h1, h2, h3⟩
      · exact Or.inl (fun k hk => by
          by_cases ek : k = m
          · rw [ek]; omega
          · exact h k (by omega))
      · exact Or.inr ⟨K, by omega, h2, fun k a b => by
          by_cases ek : k = m
          · rw [ek]; omega
          · exact h3 k a (by omega)⟩
theorem soK_eq {K : Nat} (hK : 0 < pa K) : ∀ m, K < m → (∀ k, K < k → k < m → pa k = 0) → soK W n w re pa m = (ffI W w re (K + 1) (va_up pa K (pa K - 1)) n).1
  | 0, h, _ => absurd h (Nat.not_lt_zero K)
  | m + 1, h, hz => by
    unfold soK
    by_cases e : K = m
    · subst e
      rw [if_pos hK]
    · rw [if_neg (by have := hz m (by omega) (by omega); omega)]
      exact soK_eq hK m (by omega) (fun k a b => hz k a (by omega))
theorem dec_pat (hn : n ≤ 4) (hpa : Pat W n w pa) (K : Nat) : Cnt n (va_up pa K (pa K - 1)) ∧ ∀ k, k < n → ps w (va_up pa K (pa K - 1)) (k + 1) ≤ W := by
  refine ⟨cnt_dec hpa.1 K, fun k hk => ?_⟩
  have h1 : ps w (va_up pa K (pa K - 1)) (k + 1) ≤ ps w pa (k + 1) := ps_mono (k + 1) (fun j _ => by
    unfold va_up
    split
    · rename_i e
      rw [e]
      omega
    · exact Nat.le_refl _)
  have h2 := ps_le (w := w) (p := pa) (n - (k + 1)) (k + 1)
  rw [show k + 1 + (n - (k + 1)) = n by omega] at h2
  exact Nat.le_trans h1 (Nat.le_trans h2 hpa.2)
/-- stepOn goes to the next: none that has no more than the rest is passed by -/
theorem step_next (hn : n ≤ 4) (hw : ∀ k, k < n → 1 ≤ w k) (hre : ∀ k, k < 4 → re k ≤ 6) (hpa : Pat W n w pa) (hpos : ¬ ∀ k, k < 4 → pa k = 0) :
    Pat W n w (soK W n w re pa 4) ∧ LtX (soK W n w re pa 4) pa 4 ∧ ∀ g : Nat → Nat, Pat W n w g → (∀ k, k < 4 → g k ≤ re k) → LtX g pa 4 → LtX g (soK W n w re pa 4) 4 ∨ eq4 g (soK W n w re pa 4) := by
  rcases last_ex (p := pa) 4 with h | ⟨K, hK4, hK, hz⟩
  · exact absurd h hpos
  have hKn : K < n := Nat.lt_of_not_le (fun q => by have := hpa.1.2 K q hK4; omega)
  rw [soK_eq hK 4 hK4 hz]
  obtain ⟨hd1, hd2⟩ := dec_pat hn hpa K
  have hp : ∀ k, k < K + 1 → k < n → ps w (va_up pa K (pa K - 1)) (k + 1) ≤ W := fun k _ h => hd2 k h
  have hpt := ffI_pat hn hre hd1 hp
  have hkeep : ∀ j, j < K + 1 → (ffI W w re (K + 1) (va_up pa K (pa K - 1)) n).1 j = va_up pa K (pa K - 1) j := fun j hj => ffI_keep _ _ _ _ _ _ _ (by omega)
  have hlow : ∀ j, j < K → (ffI W w re (K + 1) (va_up pa K (pa K - 1)) n).1 j = pa j := fun j hj => by
    rw [hkeep j (by omega)]
    exact if_neg (by omega)
  have hat : (ffI W w re (K + 1) (va_up pa K (pa K - 1)) n).1 K = pa K - 1 := by
    rw [hkeep K (by omega)]
    exact if_pos rfl
  refine ⟨hpt, ltx_of (j := K) (fun i hi => hlow i hi) (by rw [hat]; omega) 4 hK4, fun g hg hgr hlt => ?_⟩
  obtain ⟨j, h1, h2, h3⟩ := ltx_ex 4 hlt
  have hjK : j ≤ K := Nat.le_of_not_lt (fun q => by have := hz j q h1; omega)
  by_cases e : j = K
  · subst e
    by_cases e2 : g j = pa j - 1
    · refine ltx_up hn hg.1.2 hpt.1.2 (ffI_first hw hp (fun k hk => hgr k (by omega)) hg.2 (fun k hk _ => ?_) n (Nat.le_refl n))
      unfold va_up
      by_cases ek : k = j
      · rw [if_pos ek, ek]; exact e2
      · rw [if_neg ek]
        exact h2 k (by omega)
    · exact Or.inl (ltx_of (j := j) (fun i hi => by rw [hlow i hi]; exact h2 i hi) (by rw [hat]; omega) 4 h1)
  · exact Or.inl (ltx_of (j := j) (fun i hi => by rw [hlow i (by omega)]; exact h2 i hi) (by rw [hlow j (by omega)]; exact h3) 4 h1)
/-- the pattern that a plan's first roll may have: it leaves a rest for one roll less -/
def Gd (W n : Nat) (w v p : Nat → Nat) : Prop := (∀ k, k < 4 → p k ≤ v k) ∧ wt w p ≤ W ∧ ∃ m, Pk W w m (vsub v p) ∧ ¬ Pk W w m v
theorem pk_up {m : Nat} {v : Nat → Nat} (h : Pk W w m v) : Pk W w (m + 1) v := ⟨fun _ => 0, fun _ _ => Nat.zero_le _, by simp [wt], h⟩
theorem pk_ups {m : Nat} {v : Nat → Nat} (h : Pk W w m v) : ∀ j, Pk W w (m + j) v
  | 0 => h
  | j + 1 => pk_up (pk_ups h j)
theorem pk_mono {m m' : Nat} {v : Nat → Nat} (hm : m ≤ m') (h : Pk W w m v) : Pk W w m' v := by
  have := pk_ups h (m' - m)
  rw [show m + (m' - m) = m' by omega] at this
  exact this
theorem cnt_sub {v p : Nat → Nat} (h : Cnt n v) : Cnt n (vsub v p) := ⟨fun k hk => Nat.le_trans (Nat.sub_le _ _) (h.1 k hk), fun k h1 h2 => by show v k - p k = 0; rw [h.2 k h1 h2]; exact Nat.zero_sub _⟩
theorem gd_pat (hn : n ≤ 4) {v p : Nat → Nat} (hv : Cnt n v) (h : Gd W n w v p) : Pat W n w p := by
  have hc : Cnt n p := ⟨fun k hk => Nat.le_trans (h.1 k hk) (hv.1 k hk), fun k h1 h2 => by have := h.1 k h2; have := hv.2 k h1 h2; omega⟩
  exact ⟨hc, by rw [ps_n hn hc.2]; exact h.2.1⟩
theorem gd_congr {v v' p p' : Nat → Nat} (ev : eq4 v v') (ep : eq4 p p') (h : Gd W n w v p) : Gd W n w v' p' := by
  obtain ⟨h1, h2, m, h3, h4⟩ := h
  refine ⟨fun k hk => by rw [← ev k hk, ← ep k hk]; exact h1 k hk, by rw [← wt_congr ep]; exact h2, m, pk_congr m (fun k hk => ?_) h3, fun q => h4 (pk_congr m (fun k hk => (ev k hk).symm) q)⟩
  show v k - p k = v' k - p' k
  rw [ev k hk, ep k hk]
/-- a pattern that would do behind another would have done ahead of it -/
theorem gd_back {v p g : Nat → Nat} (hp : Gd W n w v p) (hg : Gd W n w (vsub v p) g) (hone : ∀ m, Pk W w m (vsub v p) → Pk W w (m + 1) v) : Gd W n w v g := by
  obtain ⟨g1, g2, m, g3, g4⟩ := hg
  have hle : ∀ k, k < 4 → g k ≤ v k := fun k hk => Nat.le_trans (g1 k hk) (Nat.sub_le _ _)
  refine ⟨hle, g2, m + 1, ⟨p, fun k hk => ?_, hp.2.1, pk_congr m (fun k hk => ?_) g3⟩, fun q => ?_⟩
  · have := g1 k hk
    have := hp.1 k hk
    show p k ≤ v k - g k
    have h5 : vsub v p k = v k - p k := rfl
    omega
  · show v k - p k - g k = v k - g k - p k
    omega
  · obtain ⟨-, -, m2, h3, h4⟩ := hp
    -- v needs one roll more than its rest behind p
    rcases Nat.lt_or_ge m2 (m + 1) with c | c
    · exact g4 (pk_mono (by omega) h3)
    · exact h4 (pk_mono c q)
end ORD
