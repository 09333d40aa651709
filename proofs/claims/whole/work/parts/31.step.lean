/-! the next state; what falls; the end -/
section STEP2
variable {W n : Nat} {w q : Nat → Nat} {R : Nat → Nat → Int} {Dt σ : Int} {pt : Nat → Nat → Nat}
theorem first_or (P : Nat → Prop) (n : Nat) : (∀ c, c ≤ n → P c) ∨ ∃ c, c ≤ n ∧ (∀ c', c' < c → P c') ∧ ¬ P c := by
  by_cases h : ∀ c, c ≤ n → P c
  · exact Or.inl h
  · right
    have h1 : ∃ c, c ≤ n ∧ ¬ P c := Classical.byContradiction fun z => h (fun c hc => Classical.byContradiction fun y => z ⟨c, hc, y⟩)
    obtain ⟨c, ⟨h2, h3⟩, h4⟩ := pk_least (fun c => c ≤ n ∧ ¬ P c) h1
    exact ⟨c, h2, fun c' hc => Classical.byContradiction fun y => h4 c' hc ⟨by omega, y⟩, h3⟩
theorem si_step (hn : n ≤ 4) (S : SI W n w q R Dt pt σ) {e : Nat → Nat} (he : PT W n w e) {l : Nat} (hl : l < n) (hs : 0 < dotp (R l) e n) (hmin : ∀ i, i < n → 0 < dotp (R i) e n → ¬ ub R (fun i => dotp (R i) e n) n i l) :
    SI W n w q (exR R (fun i => dotp (R i) e n) Dt l) (dotp (R l) e n) (va_up pt l e) σ := by
  have hD := S.2.2.1
  have hdet : dotp (R l) e n = σ * Det4 (bv n (va_up pt l e)) := by
    rw [dotp_adj hn S he.2.1 hl, bv_up hl e, det_rep (bv n pt) _ l (by omega)]
  have hpt : ∀ i, i < n → PT W n w (va_up pt l e i) := by
    intro i hi
    unfold va_up
    split
    · exact he
    · exact S.2.2.2.2.2.2 i hi
  have hent : ∀ i, i < n → ∀ j, j < n → exR R (fun i => dotp (R i) e n) Dt l i (j + 1) = σ * Adj (bv n (va_up pt l e)) i j := by
    intro i hi j hj
    by_cases h : i = l
    · subst h
      rw [ex_row, S.2.2.2.1 i hi j hj, bv_up hi e, adj_rep_l (bv n pt) _ i (by omega)]
    · have h1 := ex_all hn S he hl hi h (j + 1) (by omega)
      rw [ex_col hn S he hl hi h j hj] at h1
      exact (Int.eq_of_mul_eq_mul_left (by omega) h1).symm
  have hcol : ∀ i, i < n → exR R (fun i => dotp (R i) e n) Dt l i 0 = dotp (exR R (fun i => dotp (R i) e n) Dt l i) q n := by
    intro i hi
    by_cases h : i = l
    · subst h
      rw [ex_row, S.2.2.2.2.1 i hi]
      exact dotp_congr n (fun k _ => ⟨ex_row.symm, rfl⟩)
    · have h1 := ex_all hn S he hl hi h 0 (Nat.zero_le n)
      have h2 := dotp_lin (r := R i) (r' := R l) (e := q) (a := dotp (R l) e n) (b := dotp (R i) e n) n
      rw [← S.2.2.2.2.1 i hi, ← S.2.2.2.2.1 l hl] at h2
      have h3 : dotp (fun c => dotp (R l) e n * R i c - dotp (R i) e n * R l c) q n = dotp (fun c => Dt * exR R (fun i => dotp (R i) e n) Dt l i c) q n := dotp_congr n (fun k hk => ⟨ex_all hn S he hl hi h (k + 1) (by omega), rfl⟩)
      rw [h3, dotp_mul, h1] at h2
      exact Int.eq_of_mul_eq_mul_left (by omega) h2
  refine ⟨S.1, hdet, hs, hent, hcol, fun i hi => ?_, hpt⟩
  obtain ⟨cl, l1, l2, l3⟩ := S.2.2.2.2.2.1 l hl
  by_cases h : i = l
  · subst h
    exact ⟨cl, l1, fun c' hc => by rw [ex_row]; exact l2 c' hc, by rw [ex_row]; exact l3⟩
  have hall := ex_all hn S he hl hi h
  have zero : ∀ c, c ≤ n → dotp (R l) e n * R i c - dotp (R i) e n * R l c = 0 → exR R (fun i => dotp (R i) e n) Dt l i c = 0 := by
    intro c hc hz
    have := hall c hc
    rw [hz] at this
    rcases Int.mul_eq_zero.mp this.symm with x | x
    · omega
    · exact x
  have pos : ∀ c, c ≤ n → 0 < dotp (R l) e n * R i c - dotp (R i) e n * R l c → 0 < exR R (fun i => dotp (R i) e n) Dt l i c := by
    intro c hc hz
    rw [hall c hc] at hz
    exact Int.pos_of_mul_pos_right hz (by omega) |> fun x => x
  obtain ⟨ci, i1, i2, i3⟩ := S.2.2.2.2.2.1 i hi
  by_cases hsp : 0 < dotp (R i) e n
  · rcases first_or (fun c => dotp (R l) e n * R i c - dotp (R i) e n * R l c = 0) n with hz | ⟨c, c1, c2, c3⟩
    · exfalso
      -- the row would vanish
      have hA : ∀ j, j < n → Adj (bv n (va_up pt l e)) i j = 0 := by
        intro j hj
        have h1 := zero (j + 1) (by omega) (hz (j + 1) (by omega))
        rw [hent i hi j hj] at h1
        rcases Int.mul_eq_zero.mp h1 with x | x
        · rcases S.1 with y | y <;> omega
        · exact x
      have hd := adj_self (bv n (va_up pt l e)) i (by omega)
      have hb0 : ∀ k, n ≤ k → k < 4 → bv n (va_up pt l e) i k = 0 := by
        intro k a b
        unfold bv
        rw [if_pos hi, (hpt i hi).2.1 k a b]
        rfl
      have hz4 : ∀ k, k < 4 → Adj (bv n (va_up pt l e)) i k * bv n (va_up pt l e) i k = 0 := by
        intro k hk
        by_cases hkn : k < n
        · rw [hA k hkn, Int.zero_mul]
        · rw [hb0 k (by omega) hk, Int.mul_zero]
      have hz5 : Det4 (bv n (va_up pt l e)) = 0 := by
        rw [← hd]
        simp only [dot4]
        rw [hz4 0 (by omega), hz4 1 (by omega), hz4 2 (by omega), hz4 3 (by omega)]
        rfl
      rw [hdet, hz5, Int.mul_zero] at hs
      exact absurd hs (by decide)
    · refine ⟨c, c1, fun c' hc => zero c' (by omega) (c2 c' hc), pos c c1 ?_⟩
      have h9 : ¬ R i c * dotp (R l) e n < R l c * dotp (R i) e n := fun z => hmin i hi hsp ⟨c, c1, fun c' hc => by
        have := c2 c' hc
        show R i c' * dotp (R l) e n = R l c' * dotp (R i) e n
        rw [Int.mul_comm (R i c'), Int.mul_comm (R l c')]
        omega, z⟩
      rw [Int.mul_comm (R i c), Int.mul_comm (R l c)] at h9
      omega
  · by_cases hs0 : dotp (R i) e n = 0
    · refine ⟨ci, i1, fun c' hc => zero c' (by omega) ?_, pos ci i1 ?_⟩
      · rw [i2 c' hc, hs0]; simp
      · rw [hs0, Int.zero_mul, Int.sub_zero]
        exact Int.mul_pos hs i3
    · have hneg : 0 < -dotp (R i) e n := by omega
      have hsplit : ∀ c, dotp (R l) e n * R i c - dotp (R i) e n * R l c = dotp (R l) e n * R i c + -dotp (R i) e n * R l c := fun c => by rw [Int.neg_mul]; omega
      rcases Nat.lt_trichotomy ci cl with x | x | x
      · refine ⟨ci, i1, fun c' hc => zero c' (by omega) ?_, pos ci i1 ?_⟩
        · rw [i2 c' hc, l2 c' (by omega)]; simp
        · rw [l2 ci x, Int.mul_zero, Int.sub_zero]; exact Int.mul_pos hs i3
      · subst x
        refine ⟨ci, i1, fun c' hc => zero c' (by omega) ?_, pos ci i1 ?_⟩
        · rw [i2 c' hc, l2 c' hc]; simp
        · rw [hsplit]
          have a1 := Int.mul_pos hs i3
          have a2 := Int.mul_pos hneg l3
          omega
      · refine ⟨cl, l1, fun c' hc => zero c' (by omega) ?_, pos cl l1 ?_⟩
        · rw [i2 c' (by omega), l2 c' hc]; simp
        · rw [hsplit, i2 cl x, Int.mul_zero, Int.zero_add]; exact Int.mul_pos hneg l3
/-- what the sums of the columns become -/
theorem ex_csum (hn : n ≤ 4) (S : SI W n w q R Dt pt σ) {e : Nat → Nat} (he : PT W n w e) {l : Nat} (hl : l < n) : ∀ c, c ≤ n → Dt * csum (exR R (fun i => dotp (R i) e n) Dt l) c n = dotp (R l) e n * csum R c n - (ssum (fun i => dotp (R i) e n) n - Dt) * R l c := by
  intro c hc
  have h1 := csum_lin (R := R) (s := fun i => dotp (R i) e n) (a := dotp (R l) e n) (l := l) (c := c) n
  rw [← csum_mul]
  have h2 := (csum_one (T := fun i c => Dt * exR R (fun i => dotp (R i) e n) Dt l i c) (U := fun i c => if i < n then dotp (R l) e n * R i c - dotp (R i) e n * R l c else Dt * exR R (fun i => dotp (R i) e n) Dt l i c) (l := l) (c := c) (x := Dt * R l c) (by
    show Dt * exR R (fun i => dotp (R i) e n) Dt l l c = (if l < n then dotp (R l) e n * R l c - dotp (R l) e n * R l c else _) + Dt * R l c
    rw [ex_row, if_pos hl]
    omega) (fun i hi => by
    show Dt * exR R (fun i => dotp (R i) e n) Dt l i c = if i < n then _ else _
    by_cases h : i < n
    · rw [if_pos h, ex_all hn S he hl h hi c hc]
    · rw [if_neg h]) n).2 hl
  have h3 : csum (fun i c => if i < n then dotp (R l) e n * R i c - dotp (R i) e n * R l c else Dt * exR R (fun i => dotp (R i) e n) Dt l i c) c n = csum (fun i c => dotp (R l) e n * R i c - dotp (R i) e n * R l c) c n := csum_congr n (fun i hi => by show (if i < n then _ else _) = _; rw [if_pos hi])
  have h4 : csum (fun i c => Dt * exR R (fun i => dotp (R i) e n) Dt l i c) c n = csum (fun i c => dotp (R l) e n * R i c - dotp (R i) e n * R l c) c n + Dt * R l c := h2.trans (by rw [h3])
  have h5 : csum (fun i c => dotp (R l) e n * R i c - dotp (R i) e n * R l c) c n = dotp (R l) e n * csum R c n - ssum (fun i => dotp (R i) e n) n * R l c := h1
  rw [h4, h5, Int.sub_mul]
  omega
/-- the column sums, over the determinant, fall -/
def Zlt (n : Nat) (R' : Nat → Nat → Int) (D' : Int) (R : Nat → Nat → Int) (D : Int) : Prop := ∃ c, c ≤ n ∧ (∀ c', c' < c → csum R' c' n * D = csum R c' n * D') ∧ csum R' c n * D < csum R c n * D'
theorem z_falls (hn : n ≤ 4) (S : SI W n w q R Dt pt σ) {e : Nat → Nat} (he : PT W n w e) {l : Nat} (hl : l < n) (hS : Dt < ssum (fun i => dotp (R i) e n) n) : Zlt n (exR R (fun i => dotp (R i) e n) Dt l) (dotp (R l) e n) R Dt := by
  obtain ⟨c, c1, c2, c3⟩ := S.2.2.2.2.2.1 l hl
  have key := ex_csum hn S he hl
  refine ⟨c, c1, fun c' hc => ?_, ?_⟩
  · have h := key c' (by omega)
    rw [c2 c' hc, Int.mul_zero, Int.sub_zero] at h
    rw [Int.mul_comm, h, Int.mul_comm]
  · have h := key c c1
    have h2 : 0 < (ssum (fun i => dotp (R i) e n) n - Dt) * R l c := Int.mul_pos (by omega) c3
    rw [Int.mul_comm (csum (exR R (fun i => dotp (R i) e n) Dt l) c n), h, Int.mul_comm (csum R c n)]
    omega
/-- dual: every pattern of the basis is worth Dt -/
theorem y_basis (hn : n ≤ 4) (S : SI W n w q R Dt pt σ) {i : Nat} (hi : i < n) : dotp (fun c => csum R c n) (pt i) n = Dt := by
  rw [← ssum_dotp]
  have hz := (S.2.2.2.2.2.2 i hi).2.1
  have hb : bv n pt i = fun k => (pt i k : Int) := by
    funext k
    unfold bv
    rw [if_pos hi]
  have hv : ∀ m, m ≤ n → ssum (fun j => dotp (R j) (pt i) n) m = if i < m then Dt else 0 := by
    intro m
    induction m with
    | zero => intro _; rw [if_neg (Nat.not_lt_zero i)]; rfl
    | succ m ih =>
      intro hm
      show ssum _ m + dotp (R m) (pt i) n = _
      rw [ih (by omega), dotp_adj hn S hz (by omega), ← hb]
      by_cases e : m = i
      · subst e
        rw [adj_self _ m (by omega), ← S.2.1, if_neg (Nat.lt_irrefl m), if_pos (by omega)]
        omega
      · rw [adj_oth _ m (by omega) i (by omega) e, Int.mul_zero]
        by_cases h : i < m
        · rw [if_pos h, if_pos (by omega)]; omega
        · rw [if_neg h, if_neg (by omega)]; rfl
  rw [hv n (Nat.le_refl n), if_pos hi]
/-- a vector that is worth Z on every pattern of the basis is Z/Dt times the sums -/
theorem y_uniq (hn : n ≤ 4) (S : SI W n w q R Dt pt σ) {y : Nat → Int} {Z : Int} (hy : ∀ i, i < n → dotp (fun c => y (c - 1)) (pt i) n = Z) : ∀ k, k < n → Dt * y k = Z * csum R (k + 1) n := by
  intro k hk
  -- by the adjugate's columns
  have hrec := adj_rec (bv n pt) (fun j => if j = k then 1 else 0)
  have hdot : ∀ i, dot4 (Adj (bv n pt) i) (fun j => if j = k then 1 else 0) = Adj (bv n pt) i k := by
    intro i
    simp only [dot4]
    match k, Nat.lt_of_lt_of_le hk hn with
    | 0, _ => simp
    | 1, _ => simp
    | 2, _ => simp
    | 3, _ => simp
  rw [hdot, hdot, hdot, hdot] at hrec
  -- y padded with zeros
  have yp : ∀ i, i < 4 → (i < n → dot4 (fun j => if j < n then y j else 0) (bv n pt i) = Z) ∧ (n ≤ i → dot4 (fun j => if j < n then y j else 0) (bv n pt i) = 0) := by
    intro i hi
    constructor
    · intro h
      have hb : bv n pt i = fun k => (pt i k : Int) := by
        funext k
        unfold bv
        rw [if_pos h]
      rw [hb, ← dotp_4 hn (S.2.2.2.2.2.2 i h).2.1, ← hy i h]
      exact dotp_congr n (fun j hj => ⟨if_pos hj, rfl⟩)
    · intro h
      have hb : ∀ j, j < 4 → (if j < n then y j else 0) * bv n pt i j = 0 := by
        intro j hj
        have hbi : bv n pt i j = if j = i then 1 else 0 := by
          unfold bv
          rw [if_neg (show ¬ i < n by omega)]
        rw [hbi]
        by_cases e : j = i
        · rw [if_neg (show ¬ j < n by omega), Int.zero_mul]
        · rw [if_neg e, Int.mul_zero]
      simp only [dot4]
      rw [hb 0 (by omega), hb 1 (by omega), hb 2 (by omega), hb 3 (by omega)]
      rfl
  have h0 := hrec 0 (by omega)
  have h1 := hrec 1 (by omega)
  have h2 := hrec 2 (by omega)
  have h3 := hrec 3 (by omega)
  have main : Adj (bv n pt) 0 k * dot4 (fun j => if j < n then y j else 0) (bv n pt 0) + Adj (bv n pt) 1 k * dot4 (fun j => if j < n then y j else 0) (bv n pt 1) + Adj (bv n pt) 2 k * dot4 (fun j => if j < n then y j else 0) (bv n pt 2) + Adj (bv n pt) 3 k * dot4 (fun j => if j < n then y j else 0) (bv n pt 3) = Det4 (bv n pt) * dot4 (fun j => if j < n then y j else 0) (fun j => if j = k then 1 else 0) := by
    simp only [dot4]
    generalize (if 0 < n then y 0 else 0) = y0
    generalize (if 1 < n then y 1 else 0) = y1
    generalize (if 2 < n then y 2 else 0) = y2
    generalize (if 3 < n then y 3 else 0) = y3
    generalize Adj (bv n pt) 0 k = a0 at *
    generalize Adj (bv n pt) 1 k = a1 at *
    generalize Adj (bv n pt) 2 k = a2 at *
    generalize Adj (bv n pt) 3 k = a3 at *
    generalize Det4 (bv n pt) = t at *
    grind
  have hyk : dot4 (fun j => if j < n then y j else 0) (fun j => if j = k then 1 else 0) = y k := by
    simp only [dot4]
    match k, Nat.lt_of_lt_of_le hk hn, hk with
    | 0, _, hk => simp [hk]
    | 1, _, hk => simp [hk]
    | 2, _, hk => simp [hk]
    | 3, _, hk => simp [hk]
  rw [hyk] at main
  have hcs : ∀ m, m ≤ n → σ * (Adj (bv n pt) 0 k * (if 0 < m then Z else 0) + Adj (bv n pt) 1 k * (if 1 < m then Z else 0) + Adj (bv n pt) 2 k * (if 2 < m then Z else 0) + Adj (bv n pt) 3 k * (if 3 < m then Z else 0)) = Z * csum R (k + 1) m := by
    intro m
    induction m with
    | zero => intro _; simp [csum]
    | succ m ih =>
      intro hm
      have h := ih (by omega)
      have h' : Z * csum R (k + 1) (m + 1) = Z * csum R (k + 1) m + Z * R m (k + 1) := Int.mul_add _ _ _
      rw [h', ← h, S.2.2.2.1 m (by omega) k hk]
      match m, Nat.lt_of_lt_of_le (show m < n by omega) hn with
      | 0, _ => simp; grind
      | 1, _ => simp; grind
      | 2, _ => simp; grind
      | 3, _ => simp; grind
  rw [← hcs n (Nat.le_refl n), S.2.1, Int.mul_assoc, ← main]
  have e : ∀ i, i < 4 → dot4 (fun j => if j < n then y j else 0) (bv n pt i) = if i < n then Z else 0 := by
    intro i hi
    by_cases h : i < n
    · rw [if_pos h]; exact (yp i hi).1 h
    · rw [if_neg h]; exact (yp i hi).2 (by omega)
  rw [e 0 (by omega), e 1 (by omega), e 2 (by omega), e 3 (by omega)]
end STEP2
