/-! the first state and the last -/
section ENDS
variable {W n : Nat} {w q : Nat → Nat} {R : Nat → Nat → Int} {Dt σ : Int} {pt : Nat → Nat → Nat}
theorem cost_vl (S : SI W n w q R Dt pt σ) : csum R 0 n = vl (fun k => csum R (k + 1) n) q n := by
  have h1 : csum R 0 n = ssum (fun i => dotp (R i) q n) n := by
    have : ∀ m, m ≤ n → csum R 0 m = ssum (fun i => dotp (R i) q n) m := by
      intro m
      induction m with
      | zero => intro _; rfl
      | succ m ih =>
        intro hm
        show csum R 0 m + R m 0 = ssum _ m + dotp (R m) q n
        rw [ih (by omega), S.2.2.2.2.1 m (by omega)]
    exact this n (Nat.le_refl n)
  rw [h1, ssum_dotp, ← dotp_vl]
  exact dotp_congr n (fun k _ => ⟨rfl, rfl⟩)
theorem x_nonneg (S : SI W n w q R Dt pt σ) {i : Nat} (hi : i < n) : 0 ≤ R i 0 := by
  obtain ⟨c, c1, c2, c3⟩ := S.2.2.2.2.2.1 i hi
  by_cases e : c = 0
  · subst e; omega
  · rw [c2 0 (by omega)]
    exact Int.le_refl 0
theorem cost_nonneg (S : SI W n w q R Dt pt σ) : 0 ≤ csum R 0 n := by
  have : ∀ m, m ≤ n → 0 ≤ csum R 0 m := by
    intro m
    induction m with
    | zero => intro _; exact Int.le_refl 0
    | succ m ih =>
      intro hm
      have := ih (by omega)
      have := x_nonneg S (i := m) (by omega)
      show 0 ≤ csum R 0 m + R m 0
      omega
  exact this n (Nat.le_refl n)
/-- no dual solution is worth more -/
theorem si_bound (hn : n ≤ 4) (hq : Cnt n q) (S : SI W n w q R Dt pt σ) {z : Nat → Int} {Z : Int} (hz : ∀ p : Nat → Nat, ps w p n ≤ W → vl z p n ≤ Z) : vl z q n * Dt ≤ csum R 0 n * Z := by
  have hrec := adj_rec (bv n pt) (fun k => (q k : Int))
  -- the numbers of the patterns
  have hX : ∀ i, i < 4 → σ * dot4 (Adj (bv n pt) i) (fun k => (q k : Int)) = if i < n then R i 0 else 0 := by
    intro i hi
    by_cases h : i < n
    · rw [if_pos h, S.2.2.2.2.1 i h, dotp_adj hn S hq.2 h]
    · rw [if_neg h]
      have hb : ∀ m, m < 4 → bv n pt m i = if m = i then 1 else 0 := by
        intro m hm
        unfold bv
        by_cases e : m < n
        · rw [if_pos e, (S.2.2.2.2.2.2 m e).2.1 i (by omega) hi, if_neg (by omega)]
          rfl
        · rw [if_neg e]
          by_cases e2 : m = i
          · rw [if_pos e2.symm, if_pos e2]
          · rw [if_neg (fun z => e2 z.symm), if_neg e2]
      have h1 := hrec i hi
      rw [hb 0 (by omega), hb 1 (by omega), hb 2 (by omega), hb 3 (by omega)] at h1
      have hq0 : ((q i : Nat) : Int) = 0 := by rw [hq.2 i (by omega) hi]; rfl
      rw [hq0, Int.mul_zero] at h1
      have h2 : dot4 (Adj (bv n pt) i) (fun k => (q k : Int)) = 0 := by
        match i, hi with
        | 0, _ => simpa using h1
        | 1, _ => simpa using h1
        | 2, _ => simpa using h1
        | 3, _ => simpa using h1
      rw [h2, Int.mul_zero]
  have hzb : ∀ i, i < 4 → (if i < n then R i 0 else 0) * dot4 (fun j => if j < n then z j else 0) (bv n pt i) ≤ (if i < n then R i 0 else 0) * Z := by
    intro i hi
    by_cases h : i < n
    · rw [if_pos h]
      have hb : bv n pt i = fun k => (pt i k : Int) := by
        funext k
        unfold bv
        rw [if_pos h]
      have h1 : dot4 (fun j => if j < n then z j else 0) (bv n pt i) = vl z (pt i) n := by
        rw [hb, ← dotp_4 hn (S.2.2.2.2.2.2 i h).2.1, ← dotp_vl]
        exact dotp_congr n (fun j hj => ⟨if_pos hj, rfl⟩)
      rw [h1]
      exact Int.mul_le_mul_of_nonneg_left (hz (pt i) (S.2.2.2.2.2.2 i h).2.2) (x_nonneg S h)
    · rw [if_neg h, Int.zero_mul, Int.zero_mul]
      exact Int.le_refl 0
  have hzq : vl z q n = dot4 (fun j => if j < n then z j else 0) (fun k => (q k : Int)) := by
    rw [← dotp_4 hn hq.2, ← dotp_vl]
    exact dotp_congr n (fun j hj => ⟨(if_pos hj).symm, rfl⟩)
  have hcost : csum R 0 n = (if 0 < n then R 0 0 else 0) + (if 1 < n then R 1 0 else 0) + (if 2 < n then R 2 0 else 0) + (if 3 < n then R 3 0 else 0) := by
    match n, hn with
    | 0, _ => rfl
    | 1, _ => simp [csum]
    | 2, _ => simp [csum]
    | 3, _ => simp [csum]
    | 4, _ => simp [csum]
  have main : dot4 (fun j => if j < n then z j else 0) (fun k => (q k : Int)) * Dt = (if 0 < n then R 0 0 else 0) * dot4 (fun j => if j < n then z j else 0) (bv n pt 0) + (if 1 < n then R 1 0 else 0) * dot4 (fun j => if j < n then z j else 0) (bv n pt 1) + (if 2 < n then R 2 0 else 0) * dot4 (fun j => if j < n then z j else 0) (bv n pt 2) + (if 3 < n then R 3 0 else 0) * dot4 (fun j => if j < n then z j else 0) (bv n pt 3) := by
    rw [← hX 0 (by omega), ← hX 1 (by omega), ← hX 2 (by omega), ← hX 3 (by omega), S.2.1]
    have h0 := hrec 0 (by omega)
    have h1 := hrec 1 (by omega)
    have h2 := hrec 2 (by omega)
    have h3 := hrec 3 (by omega)
    have e : ∀ u v : Nat → Int, dot4 u v = u 0 * v 0 + u 1 * v 1 + u 2 * v 2 + u 3 * v 3 := fun _ _ => rfl
    rw [e (fun j => if j < n then z j else 0) (fun k => (q k : Int)), e _ (bv n pt 0), e _ (bv n pt 1), e _ (bv n pt 2), e _ (bv n pt 3)]
    generalize dot4 (Adj (bv n pt) 0) (fun k => (q k : Int)) = a0 at *
    generalize dot4 (Adj (bv n pt) 1) (fun k => (q k : Int)) = a1 at *
    generalize dot4 (Adj (bv n pt) 2) (fun k => (q k : Int)) = a2 at *
    generalize dot4 (Adj (bv n pt) 3) (fun k => (q k : Int)) = a3 at *
    generalize (if 0 < n then z 0 else 0) = z0
    generalize (if 1 < n then z 1 else 0) = z1
    generalize (if 2 < n then z 2 else 0) = z2
    generalize (if 3 < n then z 3 else 0) = z3
    generalize Det4 (bv n pt) = t at *
    grind
  have b0 := hzb 0 (by omega)
  have b1 := hzb 1 (by omega)
  have b2 := hzb 2 (by omega)
  have b3 := hzb 3 (by omega)
  rw [hzq, main, hcost, Int.add_mul, Int.add_mul, Int.add_mul]
  omega
/-- the end: the floor -/
theorem si_fl (hn : n ≤ 4) (hq : Cnt n q) (S : SI W n w q R Dt pt σ) (hfe : ∀ p : Nat → Nat, ps w p n ≤ W → vl (fun k => csum R (k + 1) n) p n ≤ Dt) {cs D : Nat} (hcs : csum R 0 n = (cs : Int)) (hD : Dt = (D : Int)) : IsFl W n w q ((cs / Nat.gcd cs D : Nat) : Int) ((D / Nat.gcd cs D : Nat) : Int) := by
  have hD0 : 0 < D := by have := S.2.2.1; omega
  have hg : 0 < Nat.gcd cs D := Nat.gcd_pos_of_pos_right _ hD0
  obtain ⟨a, ha⟩ := Nat.gcd_dvd_left cs D
  obtain ⟨b, hb⟩ := Nat.gcd_dvd_right cs D
  have e1 : cs / Nat.gcd cs D = a := Nat.div_eq_of_eq_mul_right hg ha
  have e2 : D / Nat.gcd cs D = b := Nat.div_eq_of_eq_mul_right hg hb
  have hco : Nat.gcd a b = 1 := by
    rw [← e1, ← e2]
    exact Nat.gcd_div_gcd_div_gcd_of_pos_right hD0
  rw [e1, e2]
  generalize hgg : Nat.gcd cs D = g at *
  have hb0 : 0 < b := Nat.pos_of_ne_zero (fun z => by rw [z, Nat.mul_zero] at hb; omega)
  have ca : (cs : Int) = (g : Int) * (a : Int) := by rw [ha]; exact Int.natCast_mul g a
  have cb : (D : Int) = (g : Int) * (b : Int) := by rw [hb]; exact Int.natCast_mul g b
  refine ⟨by omega, hco, ⟨fun k => csum R (k + 1) n, Dt, S.2.2.1, hfe, ?_⟩, fun z Z hZ hz => ?_⟩
  · rw [← cost_vl S, hcs, hD, ca, cb]
    grind
  · have h1 := si_bound hn hq S hz
    rw [hcs, hD, ca, cb] at h1
    have h2 : vl z q n * (b : Int) * (g : Int) ≤ (a : Int) * Z * (g : Int) := by
      have e3 : vl z q n * ((g : Int) * (b : Int)) = vl z q n * (b : Int) * (g : Int) := by grind
      have e4 : (g : Int) * (a : Int) * Z = (a : Int) * Z * (g : Int) := by grind
      rw [e3, e4] at h1
      exact h1
    exact Int.le_of_mul_le_mul_right h2 (by omega)
/-! the first state -/
def pt0 (W : Nat) (w : Nat → Nat) (i : Nat) : Nat → Nat := fun k => if k = i then W / w i else 0
def dg (W n : Nat) (w : Nat → Nat) (i : Nat) : Nat := if i < n then W / w i else 1
theorem bv0 {i k : Nat} : bv n (pt0 W w) i k = if k = i then ((dg W n w i : Nat) : Int) else 0 := by
  unfold bv pt0 dg
  by_cases h : i < n
  · rw [if_pos h, if_pos h]
    by_cases e : k = i
    · rw [if_pos e, if_pos e]
    · rw [if_neg e, if_neg e]; rfl
  · rw [if_neg h, if_neg h]; rfl
theorem pdW_dg (hn : n ≤ 4) : pdW W w n = dg W n w 0 * dg W n w 1 * dg W n w 2 * dg W n w 3 := by
  match n, hn with
  | 0, _ => rfl
  | 1, _ => simp [pdW, dg]
  | 2, _ => simp [pdW, dg]
  | 3, _ => simp [pdW, dg]
  | 4, _ => simp [pdW, dg]
theorem det0 (hn : n ≤ 4) : Det4 (bv n (pt0 W w)) = ((pdW W w n : Nat) : Int) := by
  rw [pdW_dg hn]
  simp only [Det4, dot4, X4, d3, bv0]
  simp
  grind
def oth (d : Nat → Nat) (i : Nat) : Nat := match i with
  | 0 => d 1 * d 2 * d 3
  | 1 => d 0 * d 2 * d 3
  | 2 => d 0 * d 1 * d 3
  | _ => d 0 * d 1 * d 2
theorem adj0 : ∀ i, i < 4 → ∀ j, j < 4 → Adj (bv n (pt0 W w)) i j = if j = i then ((oth (dg W n w) i : Nat) : Int) else 0 := by
  apply all4 <;> apply all4 <;> simp only [Adj, X4, d3, bv0, oth] <;> simp <;> grind
theorem oth_div (hn : n ≤ 4) (hw : ∀ k, k < n → 1 ≤ w k ∧ w k ≤ W) : ∀ i, i < n → pdW W w n / (W / w i) = oth (dg W n w) i ∧ 0 < oth (dg W n w) i := by
  intro i hi
  have hdp : ∀ k, 0 < dg W n w k := fun k => by
    unfold dg
    split
    · rename_i h
      exact Nat.div_pos (hw k h).2 (hw k h).1
    · decide
  have hd : W / w i = dg W n w i := by
    unfold dg
    rw [if_pos hi]
  have h0 := hdp 0
  have h1 := hdp 1
  have h2 := hdp 2
  have h3 := hdp 3
  rw [pdW_dg hn, hd]
  match i, Nat.lt_of_lt_of_le hi hn with
  | 0, _ => exact ⟨Nat.div_eq_of_eq_mul_right h0 (by simp only [oth]; grind), Nat.mul_pos (Nat.mul_pos h1 h2) h3⟩
  | 1, _ => exact ⟨Nat.div_eq_of_eq_mul_right h1 (by simp only [oth]; grind), Nat.mul_pos (Nat.mul_pos h0 h2) h3⟩
  | 2, _ => exact ⟨Nat.div_eq_of_eq_mul_right h2 (by simp only [oth]; grind), Nat.mul_pos (Nat.mul_pos h0 h1) h3⟩
  | 3, _ => exact ⟨Nat.div_eq_of_eq_mul_right h3 (by simp only [oth]; grind), Nat.mul_pos (Nat.mul_pos h0 h1) h2⟩
theorem si_0 (hn : n ≤ 4) (hW2 : W ≤ 60) (hw : ∀ k, k < n → 1 ≤ w k ∧ w k ≤ W) : SI W n w q (R0 W n w q) ((pdW W w n : Nat) : Int) (pt0 W w) 1 := by
  have hR : ∀ i j, i < n → R0 W n w q i (j + 1) = if j = i then ((oth (dg W n w) i : Nat) : Int) else 0 := by
    intro i j hi
    unfold R0
    rw [(oth_div hn hw i hi).1]
    by_cases e : j = i
    · rw [if_pos (by omega), if_pos e]
    · rw [if_neg (by omega), if_neg (by omega), if_neg e]
  have hR0 : ∀ i, i < n → R0 W n w q i 0 = ((q i * oth (dg W n w) i : Nat) : Int) := by
    intro i hi
    unfold R0
    rw [if_neg (by omega), if_pos rfl, (oth_div hn hw i hi).1]
  refine ⟨Or.inl rfl, by rw [det0 hn]; omega, ?_, fun i hi j hj => ?_, fun i hi => ?_, fun i hi => ?_, fun i hi => ?_⟩
  · have := pdW_pos hw n (Nat.le_refl n)
    omega
  · rw [hR i j hi, adj0 i (by omega) j (by omega), Int.one_mul]
  · rw [hR0 i hi]
    have key : ∀ m, m ≤ n → dotp (R0 W n w q i) q m = if i < m then ((q i * oth (dg W n w) i : Nat) : Int) else 0 := by
      intro m
      induction m with
      | zero => intro _; rw [if_neg (Nat.not_lt_zero i)]; rfl
      | succ m ih =>
        intro hm
        show dotp _ q m + R0 W n w q i (m + 1) * (q m : Int) = _
        rw [ih (by omega), hR i m hi]
        by_cases e : m = i
        · rw [e, if_neg (Nat.lt_irrefl i), if_pos rfl, if_pos (by omega), Int.natCast_mul, Int.mul_comm]
          omega
        · rw [if_neg e, Int.zero_mul]
          by_cases h : i < m
          · rw [if_pos h, if_pos (by omega)]; omega
          · rw [if_neg h, if_neg (by omega)]; rfl
    rw [key n (Nat.le_refl n), if_pos hi]
  · have ho := (oth_div hn hw i hi).2
    by_cases e : q i = 0
    · refine ⟨i + 1, by omega, fun c hc => ?_, by rw [hR i i hi, if_pos rfl]; omega⟩
      by_cases e0 : c = 0
      · rw [e0, hR0 i hi, e, Nat.zero_mul]; rfl
      · obtain ⟨k, rfl⟩ : ∃ k, c = k + 1 := ⟨c - 1, by omega⟩
        rw [hR i k hi, if_neg (by omega)]
    · refine ⟨0, Nat.zero_le n, fun c hc => absurd hc (Nat.not_lt_zero c), ?_⟩
      rw [hR0 i hi]
      have := Nat.mul_pos (Nat.pos_of_ne_zero e) ho
      omega
  · refine ⟨fun k hk => ?_, fun k a b => ?_, ?_⟩
    · unfold pt0
      split
      · exact Nat.le_trans (Nat.div_le_self _ _) hW2
      · exact Nat.zero_le _
    · unfold pt0
      rw [if_neg (by omega)]
    · have key : ∀ m, m ≤ n → ps w (pt0 W w i) m = if i < m then W / w i * w i else 0 := by
        intro m
        induction m with
        | zero => intro _; rw [if_neg (Nat.not_lt_zero i)]; rfl
        | succ m ih =>
          intro hm
          show ps w _ m + pt0 W w i m * w m = _
          rw [ih (by omega)]
          unfold pt0
          by_cases e : m = i
          · rw [e, if_neg (Nat.lt_irrefl i), if_pos rfl, if_pos (by omega), Nat.zero_add]
          · rw [if_neg e, Nat.zero_mul]
            by_cases h : i < m
            · rw [if_pos h, if_pos (by omega), Nat.add_zero]
            · rw [if_neg h, if_neg (by omega)]
      rw [key n (Nat.le_refl n), if_pos hi]
      exact Nat.div_mul_le_self _ _
end ENDS
