/-! packing: what the reach of a code says -/
def wt (w p : Nat → Nat) : Nat := p 0 * w 0 + p 1 * w 1 + p 2 * w 2 + p 3 * w 3
def sz4 (v : Nat → Nat) : Nat := v 0 + v 1 + v 2 + v 3
def Pk (W : Nat) (w : Nat → Nat) : Nat → (Nat → Nat) → Prop
  | 0, v => ∀ k, k < 4 → v k = 0
  | m + 1, v => ∃ p : Nat → Nat, (∀ k, k < 4 → p k ≤ v k) ∧ wt w p ≤ W ∧ Pk W w m (fun k => v k - p k)
theorem all4 {P : Nat → Prop} (h0 : P 0) (h1 : P 1) (h2 : P 2) (h3 : P 3) : ∀ k, k < 4 → P k
  | 0, _ => h0
  | 1, _ => h1
  | 2, _ => h2
  | 3, _ => h3
  | k + 4, h => absurd h (by omega)
theorem pk_congr {W : Nat} {w : Nat → Nat} : ∀ (m : Nat) {v v' : Nat → Nat}, (∀ k, k < 4 → v k = v' k) → Pk W w m v → Pk W w m v'
  | 0, _, _, e, h => fun k hk => (e k hk).symm.trans (h k hk)
  | m + 1, _, _, e, ⟨p, h1, h2, h3⟩ => ⟨p, fun k hk => (e k hk) ▸ h1 k hk, h2, pk_congr m (fun k hk => by show _ - _ = _ - _; rw [e k hk]) h3⟩
theorem wt_congr {w p p' : Nat → Nat} (e : ∀ k, k < 4 → p k = p' k) : wt w p = wt w p' := by
  unfold wt
  rw [e 0 (by omega), e 1 (by omega), e 2 (by omega), e 3 (by omega)]
theorem cdN_congr {p p' : Nat → Nat} (e : ∀ k, k < 4 → p k = p' k) : cdN p 4 = cdN p' 4 := by
  simp only [cdN]
  rw [e 0 (by omega), e 1 (by omega), e 2 (by omega), e 3 (by omega)]
/-- what the class knows of the reach -/
def LInv (W n : Nat) (w l : Nat → Nat) : Prop := l 0 = 0 ∧ (∀ c, 0 < c → c < st7 n → l c = lo W w l c 4) ∧ ∀ j, j < 2401 → l j ≤ 1440
/-- a row of counts of the kinds that there are -/
def Cnt (n : Nat) (v : Nat → Nat) : Prop := (∀ k, k < 4 → v k ≤ 6) ∧ ∀ k, n ≤ k → k < 4 → v k = 0
theorem dig_cd {v : Nat → Nat} (h : ∀ k, k < 4 → v k ≤ 6) : ∀ k, k < 4 → cdN v 4 / st7 k % 7 = v k := by
  have h0 := h 0 (by omega)
  have h1 := h 1 (by omega)
  have h2 := h 2 (by omega)
  have h3 := h 3 (by omega)
  apply all4 <;> simp only [cdN, st7] <;> omega
theorem cd_lt {n : Nat} (hn : n ≤ 4) {v : Nat → Nat} (h : Cnt n v) : cdN v 4 < st7 n := by
  have h0 := h.1 0 (by omega)
  have h1 := h.1 1 (by omega)
  have h2 := h.1 2 (by omega)
  have h3 := h.1 3 (by omega)
  have z0 : n ≤ 0 → v 0 = 0 := fun q => h.2 0 q (by omega)
  have z1 : n ≤ 1 → v 1 = 0 := fun q => h.2 1 q (by omega)
  have z2 : n ≤ 2 → v 2 = 0 := fun q => h.2 2 q (by omega)
  have z3 : n ≤ 3 → v 3 = 0 := fun q => h.2 3 q (by omega)
  match n, hn with
  | 0, _ => simp only [cdN, st7]; omega
  | 1, _ => simp only [cdN, st7]; omega
  | 2, _ => simp only [cdN, st7]; omega
  | 3, _ => simp only [cdN, st7]; omega
  | 4, _ => simp only [cdN, st7]; omega
theorem cd_pos {v : Nat → Nat} (h : 0 < sz4 v) : 0 < cdN v 4 := by
  simp only [cdN, st7]
  unfold sz4 at h
  omega
theorem cd_dec {v : Nat → Nat} : ∀ k, k < 4 → 0 < v k → cdN (va_up v k (v k - 1)) 4 = cdN v 4 - st7 k := by
  apply all4 <;> intro h <;> simp only [cdN, st7, va_up] <;> simp <;> omega
theorem sz_dec {v : Nat → Nat} : ∀ k, k < 4 → 0 < v k → sz4 (va_up v k (v k - 1)) + 1 = sz4 v := by
  apply all4 <;> intro h <;> simp only [sz4, va_up] <;> simp <;> omega
theorem wt_dec {w v : Nat → Nat} : ∀ k, k < 4 → 0 < v k → wt w (va_up v k (v k - 1)) + w k = wt w v := by
  have key : ∀ a b : Nat, 0 < a → (a - 1) * b + b = a * b := fun a b h => by
    obtain ⟨c, rfl⟩ : ∃ c, a = c + 1 := ⟨a - 1, by omega⟩
    rw [Nat.add_sub_cancel, Nat.succ_mul]
  apply all4 <;> intro h <;> simp only [wt, va_up] <;> simp <;> have := key _ (w 0) h <;> have := key _ (w 1) h <;> have := key _ (w 2) h <;> have := key _ (w 3) h <;> omega
theorem wt_inc {w v : Nat → Nat} : ∀ k, k < 4 → wt w (va_up v k (v k + 1)) = wt w v + w k := by
  apply all4 <;> simp only [wt, va_up] <;> simp <;> (first | rw [Nat.succ_mul]; omega | skip)
theorem cnt_dec {n : Nat} {v : Nat → Nat} (h : Cnt n v) (k : Nat) : Cnt n (va_up v k (v k - 1)) := by
  refine ⟨fun j hj => ?_, fun j h1 h2 => ?_⟩
  · have := h.1 j hj
    unfold va_up
    split
    · rename_i e
      subst e
      omega
    · exact this
  · have := h.2 j h1 h2
    unfold va_up
    split
    · rename_i e
      subst e
      omega
    · exact this
theorem sz_pos {v : Nat → Nat} (h : 0 < sz4 v) : ∃ k, k < 4 ∧ 0 < v k := by
  unfold sz4 at h
  by_cases h0 : 0 < v 0
  · exact ⟨0, by omega, h0⟩
  by_cases h1 : 0 < v 1
  · exact ⟨1, by omega, h1⟩
  by_cases h2 : 0 < v 2
  · exact ⟨2, by omega, h2⟩
  exact ⟨3, by omega, by omega⟩
theorem lo_below {W : Nat} {w l : Nat → Nat} {c k : Nat} (hd : 0 < c / st7 k % 7) : ∀ m, k < m → lo W w l c m ≤ pl W (l (c - st7 k)) (w k)
  | 0, h => absurd h (Nat.not_lt_zero k)
  | j + 1, h => by
    unfold lo
    by_cases e : k = j
    · subst e
      rw [if_pos hd]
      exact Nat.min_le_right _ _
    · have ih := lo_below hd (W := W) (w := w) (l := l) j (by omega)
      split
      · exact Nat.le_trans (Nat.min_le_left _ _) ih
      · exact ih
theorem lo_cases {W : Nat} {w l : Nat → Nat} {c : Nat} : ∀ m, lo W w l c m = 1440 ∨ ∃ k, k < m ∧ 0 < c / st7 k % 7 ∧ lo W w l c m = pl W (l (c - st7 k)) (w k)
  | 0 => Or.inl rfl
  | j + 1 => by
    unfold lo
    split
    · rename_i e
      rcases Nat.le_total (lo W w l c j) (pl W (l (c - st7 j)) (w j)) with h | h
      · rw [Nat.min_eq_left h]
        rcases lo_cases (W := W) (w := w) (l := l) (c := c) j with q | ⟨k, h1, h2, h3⟩
        · exact Or.inl q
        · exact Or.inr ⟨k, by omega, h2, h3⟩
      · rw [Nat.min_eq_right h]
        exact Or.inr ⟨j, by omega, e, rfl⟩
    · rcases lo_cases (W := W) (w := w) (l := l) (c := c) j with q | ⟨k, h1, h2, h3⟩
      · exact Or.inl q
      · exact Or.inr ⟨k, by omega, h2, h3⟩
theorem pl_ms {W m s x : Nat} (hW : 0 < W) (hs : s ≤ W) (hx : 1 ≤ x) (hx2 : x ≤ W) : pl W (m * W + s) x = if s + x ≤ W then m * W + s + x else (m + 1) * W + x := by
  unfold pl
  by_cases e : s = W
  · subst e
    have h1 : (m * s + s) % s = 0 := by rw [← Nat.succ_mul]; exact Nat.mul_mod_left _ _
    rw [h1, if_pos (by omega), if_neg (by omega), Nat.succ_mul]
  · have h1 : (m * W + s) % W = s := by rw [Nat.mul_comm, Nat.mul_add_mod]; exact Nat.mod_eq_of_lt (by omega)
    rw [h1]
    by_cases e2 : s + x ≤ W
    · rw [if_pos e2, if_pos e2]
    · rw [if_neg e2, if_neg e2, Nat.succ_mul]
      omega
theorem pl_mono {W r r' x : Nat} (hW : 0 < W) (hx2 : x ≤ W) (h : r ≤ r') : pl W r x ≤ pl W r' x := by
  have e1 := Nat.div_add_mod r W
  have e2 := Nat.div_add_mod r' W
  have l1 := Nat.mod_lt r hW
  have l2 := Nat.mod_lt r' hW
  have hd : r / W ≤ r' / W := Nat.div_le_div_right h
  unfold pl
  by_cases e : r / W = r' / W
  · rw [e] at e1
    split <;> split <;> omega
  · have h3 : W * (r / W + 1) ≤ W * (r' / W) := Nat.mul_le_mul_left W (by omega)
    rw [Nat.mul_succ] at h3
    split <;> split <;> omega
/-- a packing of v: m rolls that are closed, s on the one that is open -/
def Re (W : Nat) (w : Nat → Nat) (m s : Nat) (v : Nat → Nat) : Prop := ∃ v1 p : Nat → Nat, (∀ k, k < 4 → v k = v1 k + p k) ∧ Pk W w m v1 ∧ wt w p = s ∧ s ≤ W
section PACK
variable {W n : Nat} {w l : Nat → Nat}
theorem pk_of_re {m s : Nat} {v : Nat → Nat} (h : Re W w m s v) : Pk W w (m + 1) v := by
  obtain ⟨v1, p, h1, h2, h3, h4⟩ := h
  refine ⟨p, fun k hk => by have := h1 k hk; omega, by omega, pk_congr m (fun k hk => ?_) h2⟩
  have := h1 k hk
  show _ = v k - p k
  omega
theorem reach_made (hn : n ≤ 4) (hW : 0 < W) (hW2 : W ≤ 60) (hw : ∀ k, k < n → 1 ≤ w k ∧ w k ≤ W) (hl : LInv W n w l) : ∀ (N : Nat) (v : Nat → Nat), sz4 v = N → Cnt n v → ∃ m s, Re W w m s v ∧ l (cdN v 4) = m * W + s ∧ (0 < N → m < N ∧ 0 < s) ∧ (N = 0 → m = 0 ∧ s = 0) := by
  intro N
  induction N with
  | zero =>
    intro v hv hc
    have h0 : ∀ k, k < 4 → v k = 0 := by
      unfold sz4 at hv
      apply all4 <;> omega
    refine ⟨0, 0, ⟨v, fun _ => 0, fun k hk => rfl, h0, by simp [wt], Nat.zero_le _⟩, ?_, fun h => absurd h (by omega), fun _ => ⟨rfl, rfl⟩⟩
    rw [show cdN v 4 = 0 by rw [cdN_congr (p' := fun _ => 0) h0]; simp [cdN]]
    rw [hl.1]
    omega
  | succ N ih =>
    intro v hv hc
    have hcp := cd_pos (v := v) (by omega)
    have hcl := cd_lt hn hc
    have e0 := hl.2.1 _ hcp hcl
    have hdg := dig_cd hc.1
    -- what each last piece gives
    have each : ∀ k, k < 4 → 0 < v k → ∃ m s, Re W w m s v ∧ pl W (l (cdN v 4 - st7 k)) (w k) = m * W + s ∧ m < N + 1 ∧ 0 < s := by
      intro k hk hvk
      have hkn : k < n := Nat.lt_of_not_le (fun q => by have := hc.2 k q hk; omega)
      obtain ⟨hw1, hw2⟩ := hw k hkn
      obtain ⟨m, s, ⟨v1, p, r1, r2, r3, r4⟩, r5, r6, r7⟩ := ih (va_up v k (v k - 1)) (by have := sz_dec (v := v) k hk hvk; omega) (cnt_dec hc k)
      rw [cd_dec k hk hvk] at r5
      rw [r5, pl_ms hW r4 hw1 hw2]
      have hmN : m ≤ N := by
        by_cases h0 : 0 < N
        · have := (r6 h0).1; omega
        · have := (r7 (by omega)).1; omega
      have hv' : ∀ j, j < 4 → v j = if j = k then v1 j + p j + 1 else v1 j + p j := by
        intro j hj
        have := r1 j hj
        unfold va_up at this
        by_cases e : j = k
        · rw [if_pos e] at this ⊢
          subst e
          omega
        · rw [if_neg e] at this ⊢
          exact this
      by_cases e : s + w k ≤ W
      · rw [if_pos e]
        refine ⟨m, s + w k, ⟨v1, va_up p k (p k + 1), fun j hj => ?_, r2, by rw [wt_inc k hk, r3], e⟩, by omega, by omega, by omega⟩
        rw [hv' j hj]
        unfold va_up
        by_cases ej : j = k
        · rw [if_pos ej, if_pos ej, ej]; omega
        · rw [if_neg ej, if_neg ej]
      · rw [if_neg e]
        have hm1 : m + 1 < N + 1 := by
          by_cases h0 : 0 < N
          · have := (r6 h0).1; omega
          · have := (r7 (by omega)).2; omega
        refine ⟨m + 1, w k, ⟨fun j => v1 j + p j, va_up (fun _ => 0) k (0 + 1), fun j hj => ?_, pk_of_re ⟨v1, p, fun _ _ => rfl, r2, r3, r4⟩, ?_, by omega⟩, rfl, hm1, by omega⟩
        · rw [hv' j hj]
          unfold va_up
          by_cases ej : j = k
          · rw [if_pos ej, if_pos ej]
          · rw [if_neg ej, if_neg ej]; rfl
        · have := wt_inc (w := w) (v := fun _ => 0) k hk
          rw [this]
          simp [wt]
    obtain ⟨k0, hk0, hv0⟩ := sz_pos (v := v) (by omega)
    have pick : ∃ k, k < 4 ∧ 0 < v k ∧ lo W w l (cdN v 4) 4 = pl W (l (cdN v 4 - st7 k)) (w k) := by
      rcases lo_cases (W := W) (w := w) (l := l) (c := cdN v 4) 4 with q | ⟨k, h1, h2, h3⟩
      · refine ⟨k0, hk0, hv0, ?_⟩
        have h1 := lo_below (W := W) (w := w) (l := l) (c := cdN v 4) (k := k0) (by rw [hdg k0 hk0]; exact hv0) 4 hk0
        obtain ⟨m, s, ⟨v1, p, -, -, -, r4⟩, h2, h3, -⟩ := each k0 hk0 hv0
        have hN : N + 1 ≤ 24 := by
          have a0 := hc.1 0 (by omega)
          have a1 := hc.1 1 (by omega)
          have a2 := hc.1 2 (by omega)
          have a3 := hc.1 3 (by omega)
          unfold sz4 at hv
          omega
        have h4 : m * W ≤ 23 * 60 := Nat.mul_le_mul (by omega) hW2
        omega
      · exact ⟨k, h1, by rw [← hdg k h1]; exact h2, h3⟩
    obtain ⟨k, hk, hvk, hlo⟩ := pick
    obtain ⟨m, s, h1, h2, h3, h4⟩ := each k hk hvk
    exact ⟨m, s, h1, by rw [e0, hlo, h2], fun _ => ⟨h3, h4⟩, fun q => absurd q (by omega)⟩
theorem reach_least (hn : n ≤ 4) (hW : 0 < W) (hw : ∀ k, k < n → 1 ≤ w k ∧ w k ≤ W) (hl : LInv W n w l) : ∀ (N m s : Nat) (v : Nat → Nat), sz4 v + m ≤ N → Cnt n v → Re W w m s v → l (cdN v 4) ≤ m * W + s := by
  intro N
  induction N with
  | zero =>
    intro m s v hN hc _
    have h0 : ∀ k, k < 4 → v k = 0 := by
      unfold sz4 at hN
      apply all4 <;> omega
    rw [show cdN v 4 = 0 by rw [cdN_congr (p' := fun _ => 0) h0]; simp [cdN]]
    rw [hl.1]
    omega
  | succ N ih =>
    intro m s v hN hc hre
    by_cases hz : sz4 v = 0
    · have h0 : ∀ k, k < 4 → v k = 0 := by
        unfold sz4 at hz
        apply all4 <;> omega
      rw [show cdN v 4 = 0 by rw [cdN_congr (p' := fun _ => 0) h0]; simp [cdN]]
      rw [hl.1]
      omega
    · obtain ⟨v1, p, r1, r2, r3, r4⟩ := id hre
      by_cases hp : 0 < sz4 p
      · obtain ⟨k, hk, hpk⟩ := sz_pos hp
        have hvk : 0 < v k := by have := r1 k hk; omega
        have hkn : k < n := Nat.lt_of_not_le (fun q => by have := hc.2 k q hk; omega)
        obtain ⟨hw1, hw2⟩ := hw k hkn
        have hwd := wt_dec (w := w) (v := p) k hk hpk
        have hsd := sz_dec (v := v) k hk hvk
        have h1 := ih m (s - w k) (va_up v k (v k - 1)) (by omega) (cnt_dec hc k) ⟨v1, va_up p k (p k - 1), fun j hj => by
          have := r1 j hj
          unfold va_up
          by_cases e : j = k
          · subst e
            rw [if_pos rfl, if_pos rfl]
            omega
          · rw [if_neg e, if_neg e]
            exact this, r2, by omega, by omega⟩
        rw [cd_dec k hk hvk] at h1
        have h2 := lo_below (W := W) (w := w) (l := l) (c := cdN v 4) (k := k) (by rw [dig_cd hc.1 k hk]; exact hvk) 4 hk
        rw [← hl.2.1 _ (cd_pos (by omega)) (cd_lt hn hc)] at h2
        have h3 := pl_mono (x := w k) hW hw2 h1
        rw [pl_ms hW (by omega) hw1 hw2, if_pos (by omega)] at h3
        omega
      · have hp0 : ∀ k, k < 4 → p k = 0 := by
          unfold sz4 at hp
          apply all4 <;> omega
        match m, r2, hN with
        | 0, r2, _ =>
          exfalso
          apply hz
          have a0 := r1 0 (by omega)
          have a1 := r1 1 (by omega)
          have a2 := r1 2 (by omega)
          have a3 := r1 3 (by omega)
          have b0 := r2 0 (by omega)
          have b1 := r2 1 (by omega)
          have b2 := r2 2 (by omega)
          have b3 := r2 3 (by omega)
          have c0 := hp0 0 (by omega)
          have c1 := hp0 1 (by omega)
          have c2 := hp0 2 (by omega)
          have c3 := hp0 3 (by omega)
          unfold sz4
          omega
        | m + 1, r2, hN =>
          obtain ⟨p', q1, q2, q3⟩ := r2
          have h1 := ih m (wt w p') v (by omega) hc ⟨fun k => v1 k - p' k, p', fun k hk => by
            have := r1 k hk
            have := hp0 k hk
            have := q1 k hk
            show v k = v1 k - p' k + p' k
            omega, q3, rfl, q2⟩
          rw [Nat.succ_mul]
          omega
/-- how many rolls a row of counts needs -/
theorem pkk_made (hn : n ≤ 4) (hW : 0 < W) (hW2 : W ≤ 60) (hw : ∀ k, k < n → 1 ≤ w k ∧ w k ≤ W) (hl : LInv W n w l) {v : Nat → Nat} (hc : Cnt n v) : Pk W w (cl W (l (cdN v 4))) v := by
  obtain ⟨m, s, h1, h2, h3, h4⟩ := reach_made hn hW hW2 hw hl (sz4 v) v rfl hc
  by_cases hz : sz4 v = 0
  · have h0 : ∀ k, k < 4 → v k = 0 := by
      unfold sz4 at hz
      apply all4 <;> omega
    obtain ⟨rfl, rfl⟩ := h4 hz
    rw [h2]
    have e : cl W (0 * W + 0) = 0 := by
      unfold cl
      rw [Nat.zero_mul]
      exact Nat.div_eq_of_lt (by omega)
    rw [e]
    exact h0
  · have h5 := (h3 (by omega)).2
    have e : cl W (m * W + s) = m + 1 := by
      unfold cl
      obtain ⟨v1, p, -, -, -, r4⟩ := h1
      have e1 : m * W + s + W - 1 = W * (m + 1) + (s - 1) := by rw [Nat.mul_succ, Nat.mul_comm W m]; omega
      rw [e1, Nat.mul_add_div hW, Nat.div_eq_of_lt (by omega)]
    rw [h2, e]
    exact pk_of_re h1
theorem pkk_least (hn : n ≤ 4) (hW : 0 < W) (hw : ∀ k, k < n → 1 ≤ w k ∧ w k ≤ W) (hl : LInv W n w l) {v : Nat → Nat} (hc : Cnt n v) {m : Nat} (h : Pk W w m v) : cl W (l (cdN v 4)) ≤ m := by
  have h1 := reach_least hn hW hw hl (sz4 v + m) m 0 v (Nat.le_refl _) hc ⟨v, fun _ => 0, fun _ _ => rfl, h, by simp [wt], Nat.zero_le _⟩
  unfold cl
  have h2 : (l (cdN v 4) + W - 1) / W < m + 1 := by
    rw [Nat.div_lt_iff_lt_mul hW, Nat.succ_mul]
    omega
  omega
end PACK
