/-! four vectors: the adjugate's rows, the determinant -/
def Adj (b : Nat → Nat → Int) (i : Nat) : Nat → Int := match i with
  | 0 => X4 (b 1) (b 2) (b 3)
  | 1 => fun j => -X4 (b 0) (b 2) (b 3) j
  | 2 => X4 (b 0) (b 1) (b 3)
  | _ => fun j => -X4 (b 0) (b 1) (b 2) j
def Det4 (b : Nat → Nat → Int) : Int := dot4 (b 0) (X4 (b 1) (b 2) (b 3))
theorem adj_rec (b : Nat → Nat → Int) (v : Nat → Int) : ∀ k, k < 4 → dot4 (Adj b 0) v * b 0 k + dot4 (Adj b 1) v * b 1 k + dot4 (Adj b 2) v * b 2 k + dot4 (Adj b 3) v * b 3 k = Det4 b * v k := by
  intro k hk
  have h := recomb (b 0) (b 1) (b 2) (b 3) v k hk
  have e1 : dot4 (Adj b 1) v = -dot4 (X4 (b 0) (b 2) (b 3)) v := by simp only [dot4, Adj]; grind
  have e3 : dot4 (Adj b 3) v = -dot4 (X4 (b 0) (b 1) (b 2)) v := by simp only [dot4, Adj]; grind
  rw [e1, e3]
  show dot4 (X4 (b 1) (b 2) (b 3)) v * b 0 k + _ + dot4 (X4 (b 0) (b 1) (b 3)) v * b 2 k + _ = dot4 (b 0) (X4 (b 1) (b 2) (b 3)) * v k
  grind
theorem adj_self (b : Nat → Nat → Int) : ∀ i, i < 4 → dot4 (Adj b i) (b i) = Det4 b := by
  apply all4 <;> simp only [Det4, dot4, Adj, X4, d3] <;> grind
theorem adj_oth (b : Nat → Nat → Int) : ∀ i, i < 4 → ∀ k, k < 4 → i ≠ k → dot4 (Adj b i) (b k) = 0 := by
  apply all4 <;> apply all4 <;> intro h <;> first | exact absurd rfl h | (simp only [dot4, Adj, X4, d3]; grind)
theorem det_rep (b : Nat → Nat → Int) (p : Nat → Int) : ∀ l, l < 4 → Det4 (va_up b l p) = dot4 (Adj b l) p := by
  apply all4
  · show dot4 p (X4 (b 1) (b 2) (b 3)) = dot4 (X4 (b 1) (b 2) (b 3)) p
    simp only [dot4]; grind
  · show dot4 (b 0) (X4 p (b 2) (b 3)) = _
    simp only [dot4, Adj, X4, d3]; grind
  · show dot4 (b 0) (X4 (b 1) p (b 3)) = _
    simp only [dot4, Adj, X4, d3]; grind
  · show dot4 (b 0) (X4 (b 1) (b 2) p) = _
    simp only [dot4, Adj, X4, d3]; grind
theorem adj_rep_l (b : Nat → Nat → Int) (p : Nat → Int) : ∀ l, l < 4 → Adj (va_up b l p) l = Adj b l := by
  apply all4 <;> rfl
theorem X4_13 (a c : Nat → Int) : ∀ j, j < 4 → X4 a c a j = 0 := by
  apply all4 <;> simp only [X4, d3] <;> grind
theorem X4_rot (y z p : Nat → Int) (j : Nat) (hj : j < 4) : X4 y z p j = X4 p y z j := by
  rw [X4_s23 y z p j hj, X4_s12 y p z j hj, Int.neg_neg]
theorem X4_core {t sl si sy sz : Int} {p bl bi y z : Nat → Int} (h : ∀ k, k < 4 → t * p k = sl * bl k + si * bi k + sy * y k + sz * z k) (j : Nat) (hj : j < 4) : t * X4 p y z j = sl * X4 bl y z j + si * X4 bi y z j := by
  rw [X4_lin y z h j hj, X4_11 y z j hj, X4_13 z y j hj]
  simp
theorem adj_rep01 (b : Nat → Nat → Int) (p : Nat → Int) (j : Nat) (hj : j < 4) : Det4 b * Adj (va_up b 0 p) 1 j = dot4 (Adj b 0) p * Adj b 1 j - dot4 (Adj b 1) p * Adj b 0 j := by
  have hc := X4_core (t := Det4 b) (sl := dot4 (Adj b 0) p) (si := dot4 (Adj b 1) p) (sy := dot4 (Adj b 2) p) (sz := dot4 (Adj b 3) p) (p := p) (bl := b 0) (bi := b 1) (y := b 2) (z := b 3) (fun k hk => by have := adj_rec b p k hk; omega) j hj
  show Det4 b * (-(X4 p (b 2) (b 3) j)) = dot4 (Adj b 0) p * (-(X4 (b 0) (b 2) (b 3) j)) - dot4 (Adj b 1) p * (X4 (b 1) (b 2) (b 3) j)
  generalize X4 p (b 2) (b 3) j = x at *
  generalize X4 (b 0) (b 2) (b 3) j = y at *
  generalize X4 (b 1) (b 2) (b 3) j = z at *
  generalize Det4 b = t at *
  generalize dot4 (Adj b 0) p = u at *
  generalize dot4 (Adj b 1) p = v at *
  grind
theorem adj_rep02 (b : Nat → Nat → Int) (p : Nat → Int) (j : Nat) (hj : j < 4) : Det4 b * Adj (va_up b 0 p) 2 j = dot4 (Adj b 0) p * Adj b 2 j - dot4 (Adj b 2) p * Adj b 0 j := by
  have hc := X4_core (t := Det4 b) (sl := dot4 (Adj b 0) p) (si := dot4 (Adj b 2) p) (sy := dot4 (Adj b 1) p) (sz := dot4 (Adj b 3) p) (p := p) (bl := b 0) (bi := b 2) (y := b 1) (z := b 3) (fun k hk => by have := adj_rec b p k hk; omega) j hj
  show Det4 b * (X4 p (b 1) (b 3) j) = dot4 (Adj b 0) p * (X4 (b 0) (b 1) (b 3) j) - dot4 (Adj b 2) p * (X4 (b 1) (b 2) (b 3) j)
  rw [X4_s12 (b 1) (b 2) (b 3) j hj]
  generalize X4 p (b 1) (b 3) j = x at *
  generalize X4 (b 0) (b 1) (b 3) j = y at *
  generalize X4 (b 2) (b 1) (b 3) j = z at *
  generalize Det4 b = t at *
  generalize dot4 (Adj b 0) p = u at *
  generalize dot4 (Adj b 2) p = v at *
  grind
theorem adj_rep03 (b : Nat → Nat → Int) (p : Nat → Int) (j : Nat) (hj : j < 4) : Det4 b * Adj (va_up b 0 p) 3 j = dot4 (Adj b 0) p * Adj b 3 j - dot4 (Adj b 3) p * Adj b 0 j := by
  have hc := X4_core (t := Det4 b) (sl := dot4 (Adj b 0) p) (si := dot4 (Adj b 3) p) (sy := dot4 (Adj b 1) p) (sz := dot4 (Adj b 2) p) (p := p) (bl := b 0) (bi := b 3) (y := b 1) (z := b 2) (fun k hk => by have := adj_rec b p k hk; omega) j hj
  show Det4 b * (-(X4 p (b 1) (b 2) j)) = dot4 (Adj b 0) p * (-(X4 (b 0) (b 1) (b 2) j)) - dot4 (Adj b 3) p * (X4 (b 1) (b 2) (b 3) j)
  rw [X4_rot (b 1) (b 2) (b 3) j hj]
  generalize X4 p (b 1) (b 2) j = x at *
  generalize X4 (b 0) (b 1) (b 2) j = y at *
  generalize X4 (b 3) (b 1) (b 2) j = z at *
  generalize Det4 b = t at *
  generalize dot4 (Adj b 0) p = u at *
  generalize dot4 (Adj b 3) p = v at *
  grind
theorem adj_rep10 (b : Nat → Nat → Int) (p : Nat → Int) (j : Nat) (hj : j < 4) : Det4 b * Adj (va_up b 1 p) 0 j = dot4 (Adj b 1) p * Adj b 0 j - dot4 (Adj b 0) p * Adj b 1 j := by
  have hc := X4_core (t := Det4 b) (sl := dot4 (Adj b 1) p) (si := dot4 (Adj b 0) p) (sy := dot4 (Adj b 2) p) (sz := dot4 (Adj b 3) p) (p := p) (bl := b 1) (bi := b 0) (y := b 2) (z := b 3) (fun k hk => by have := adj_rec b p k hk; omega) j hj
  show Det4 b * (X4 p (b 2) (b 3) j) = dot4 (Adj b 1) p * (X4 (b 1) (b 2) (b 3) j) - dot4 (Adj b 0) p * (-(X4 (b 0) (b 2) (b 3) j))
  generalize X4 p (b 2) (b 3) j = x at *
  generalize X4 (b 1) (b 2) (b 3) j = y at *
  generalize X4 (b 0) (b 2) (b 3) j = z at *
  generalize Det4 b = t at *
  generalize dot4 (Adj b 1) p = u at *
  generalize dot4 (Adj b 0) p = v at *
  grind
theorem adj_rep12 (b : Nat → Nat → Int) (p : Nat → Int) (j : Nat) (hj : j < 4) : Det4 b * Adj (va_up b 1 p) 2 j = dot4 (Adj b 1) p * Adj b 2 j - dot4 (Adj b 2) p * Adj b 1 j := by
  have hc := X4_core (t := Det4 b) (sl := dot4 (Adj b 1) p) (si := dot4 (Adj b 2) p) (sy := dot4 (Adj b 0) p) (sz := dot4 (Adj b 3) p) (p := p) (bl := b 1) (bi := b 2) (y := b 0) (z := b 3) (fun k hk => by have := adj_rec b p k hk; omega) j hj
  show Det4 b * (X4 (b 0) p (b 3) j) = dot4 (Adj b 1) p * (X4 (b 0) (b 1) (b 3) j) - dot4 (Adj b 2) p * (-(X4 (b 0) (b 2) (b 3) j))
  rw [X4_s12 (b 0) p (b 3) j hj]
  rw [X4_s12 (b 0) (b 1) (b 3) j hj]
  rw [X4_s12 (b 0) (b 2) (b 3) j hj]
  generalize X4 p (b 0) (b 3) j = x at *
  generalize X4 (b 1) (b 0) (b 3) j = y at *
  generalize X4 (b 2) (b 0) (b 3) j = z at *
  generalize Det4 b = t at *
  generalize dot4 (Adj b 1) p = u at *
  generalize dot4 (Adj b 2) p = v at *
  grind
theorem adj_rep13 (b : Nat → Nat → Int) (p : Nat → Int) (j : Nat) (hj : j < 4) : Det4 b * Adj (va_up b 1 p) 3 j = dot4 (Adj b 1) p * Adj b 3 j - dot4 (Adj b 3) p * Adj b 1 j := by
  have hc := X4_core (t := Det4 b) (sl := dot4 (Adj b 1) p) (si := dot4 (Adj b 3) p) (sy := dot4 (Adj b 0) p) (sz := dot4 (Adj b 2) p) (p := p) (bl := b 1) (bi := b 3) (y := b 0) (z := b 2) (fun k hk => by have := adj_rec b p k hk; omega) j hj
  show Det4 b * (-(X4 (b 0) p (b 2) j)) = dot4 (Adj b 1) p * (-(X4 (b 0) (b 1) (b 2) j)) - dot4 (Adj b 3) p * (-(X4 (b 0) (b 2) (b 3) j))
  rw [X4_s12 (b 0) p (b 2) j hj]
  rw [X4_s12 (b 0) (b 1) (b 2) j hj]
  rw [X4_rot (b 0) (b 2) (b 3) j hj]
  generalize X4 p (b 0) (b 2) j = x at *
  generalize X4 (b 1) (b 0) (b 2) j = y at *
  generalize X4 (b 3) (b 0) (b 2) j = z at *
  generalize Det4 b = t at *
  generalize dot4 (Adj b 1) p = u at *
  generalize dot4 (Adj b 3) p = v at *
  grind
theorem adj_rep20 (b : Nat → Nat → Int) (p : Nat → Int) (j : Nat) (hj : j < 4) : Det4 b * Adj (va_up b 2 p) 0 j = dot4 (Adj b 2) p * Adj b 0 j - dot4 (Adj b 0) p * Adj b 2 j := by
  have hc := X4_core (t := Det4 b) (sl := dot4 (Adj b 2) p) (si := dot4 (Adj b 0) p) (sy := dot4 (Adj b 1) p) (sz := dot4 (Adj b 3) p) (p := p) (bl := b 2) (bi := b 0) (y := b 1) (z := b 3) (fun k hk => by have := adj_rec b p k hk; omega) j hj
  show Det4 b * (X4 (b 1) p (b 3) j) = dot4 (Adj b 2) p * (X4 (b 1) (b 2) (b 3) j) - dot4 (Adj b 0) p * (X4 (b 0) (b 1) (b 3) j)
  rw [X4_s12 (b 1) p (b 3) j hj]
  rw [X4_s12 (b 1) (b 2) (b 3) j hj]
  generalize X4 p (b 1) (b 3) j = x at *
  generalize X4 (b 2) (b 1) (b 3) j = y at *
  generalize X4 (b 0) (b 1) (b 3) j = z at *
  generalize Det4 b = t at *
  generalize dot4 (Adj b 2) p = u at *
  generalize dot4 (Adj b 0) p = v at *
  grind
theorem adj_rep21 (b : Nat → Nat → Int) (p : Nat → Int) (j : Nat) (hj : j < 4) : Det4 b * Adj (va_up b 2 p) 1 j = dot4 (Adj b 2) p * Adj b 1 j - dot4 (Adj b 1) p * Adj b 2 j := by
  have hc := X4_core (t := Det4 b) (sl := dot4 (Adj b 2) p) (si := dot4 (Adj b 1) p) (sy := dot4 (Adj b 0) p) (sz := dot4 (Adj b 3) p) (p := p) (bl := b 2) (bi := b 1) (y := b 0) (z := b 3) (fun k hk => by have := adj_rec b p k hk; omega) j hj
  show Det4 b * (-(X4 (b 0) p (b 3) j)) = dot4 (Adj b 2) p * (-(X4 (b 0) (b 2) (b 3) j)) - dot4 (Adj b 1) p * (X4 (b 0) (b 1) (b 3) j)
  rw [X4_s12 (b 0) p (b 3) j hj]
  rw [X4_s12 (b 0) (b 2) (b 3) j hj]
  rw [X4_s12 (b 0) (b 1) (b 3) j hj]
  generalize X4 p (b 0) (b 3) j = x at *
  generalize X4 (b 2) (b 0) (b 3) j = y at *
  generalize X4 (b 1) (b 0) (b 3) j = z at *
  generalize Det4 b = t at *
  generalize dot4 (Adj b 2) p = u at *
  generalize dot4 (Adj b 1) p = v at *
  grind
theorem adj_rep23 (b : Nat → Nat → Int) (p : Nat → Int) (j : Nat) (hj : j < 4) : Det4 b * Adj (va_up b 2 p) 3 j = dot4 (Adj b 2) p * Adj b 3 j - dot4 (Adj b 3) p * Adj b 2 j := by
  have hc := X4_core (t := Det4 b) (sl := dot4 (Adj b 2) p) (si := dot4 (Adj b 3) p) (sy := dot4 (Adj b 0) p) (sz := dot4 (Adj b 1) p) (p := p) (bl := b 2) (bi := b 3) (y := b 0) (z := b 1) (fun k hk => by have := adj_rec b p k hk; omega) j hj
  show Det4 b * (-(X4 (b 0) (b 1) p j)) = dot4 (Adj b 2) p * (-(X4 (b 0) (b 1) (b 2) j)) - dot4 (Adj b 3) p * (X4 (b 0) (b 1) (b 3) j)
  rw [X4_rot (b 0) (b 1) p j hj]
  rw [X4_rot (b 0) (b 1) (b 2) j hj]
  rw [X4_rot (b 0) (b 1) (b 3) j hj]
  generalize X4 p (b 0) (b 1) j = x at *
  generalize X4 (b 2) (b 0) (b 1) j = y at *
  generalize X4 (b 3) (b 0) (b 1) j = z at *
  generalize Det4 b = t at *
  generalize dot4 (Adj b 2) p = u at *
  generalize dot4 (Adj b 3) p = v at *
  grind
theorem adj_rep30 (b : Nat → Nat → Int) (p : Nat → Int) (j : Nat) (hj : j < 4) : Det4 b * Adj (va_up b 3 p) 0 j = dot4 (Adj b 3) p * Adj b 0 j - dot4 (Adj b 0) p * Adj b 3 j := by
  have hc := X4_core (t := Det4 b) (sl := dot4 (Adj b 3) p) (si := dot4 (Adj b 0) p) (sy := dot4 (Adj b 1) p) (sz := dot4 (Adj b 2) p) (p := p) (bl := b 3) (bi := b 0) (y := b 1) (z := b 2) (fun k hk => by have := adj_rec b p k hk; omega) j hj
  show Det4 b * (X4 (b 1) (b 2) p j) = dot4 (Adj b 3) p * (X4 (b 1) (b 2) (b 3) j) - dot4 (Adj b 0) p * (-(X4 (b 0) (b 1) (b 2) j))
  rw [X4_rot (b 1) (b 2) p j hj]
  rw [X4_rot (b 1) (b 2) (b 3) j hj]
  generalize X4 p (b 1) (b 2) j = x at *
  generalize X4 (b 3) (b 1) (b 2) j = y at *
  generalize X4 (b 0) (b 1) (b 2) j = z at *
  generalize Det4 b = t at *
  generalize dot4 (Adj b 3) p = u at *
  generalize dot4 (Adj b 0) p = v at *
  grind
theorem adj_rep31 (b : Nat → Nat → Int) (p : Nat → Int) (j : Nat) (hj : j < 4) : Det4 b * Adj (va_up b 3 p) 1 j = dot4 (Adj b 3) p * Adj b 1 j - dot4 (Adj b 1) p * Adj b 3 j := by
  have hc := X4_core (t := Det4 b) (sl := dot4 (Adj b 3) p) (si := dot4 (Adj b 1) p) (sy := dot4 (Adj b 0) p) (sz := dot4 (Adj b 2) p) (p := p) (bl := b 3) (bi := b 1) (y := b 0) (z := b 2) (fun k hk => by have := adj_rec b p k hk; omega) j hj
  show Det4 b * (-(X4 (b 0) (b 2) p j)) = dot4 (Adj b 3) p * (-(X4 (b 0) (b 2) (b 3) j)) - dot4 (Adj b 1) p * (-(X4 (b 0) (b 1) (b 2) j))
  rw [X4_rot (b 0) (b 2) p j hj]
  rw [X4_rot (b 0) (b 2) (b 3) j hj]
  rw [X4_s12 (b 0) (b 1) (b 2) j hj]
  generalize X4 p (b 0) (b 2) j = x at *
  generalize X4 (b 3) (b 0) (b 2) j = y at *
  generalize X4 (b 1) (b 0) (b 2) j = z at *
  generalize Det4 b = t at *
  generalize dot4 (Adj b 3) p = u at *
  generalize dot4 (Adj b 1) p = v at *
  grind
theorem adj_rep32 (b : Nat → Nat → Int) (p : Nat → Int) (j : Nat) (hj : j < 4) : Det4 b * Adj (va_up b 3 p) 2 j = dot4 (Adj b 3) p * Adj b 2 j - dot4 (Adj b 2) p * Adj b 3 j := by
  have hc := X4_core (t := Det4 b) (sl := dot4 (Adj b 3) p) (si := dot4 (Adj b 2) p) (sy := dot4 (Adj b 0) p) (sz := dot4 (Adj b 1) p) (p := p) (bl := b 3) (bi := b 2) (y := b 0) (z := b 1) (fun k hk => by have := adj_rec b p k hk; omega) j hj
  show Det4 b * (X4 (b 0) (b 1) p j) = dot4 (Adj b 3) p * (X4 (b 0) (b 1) (b 3) j) - dot4 (Adj b 2) p * (-(X4 (b 0) (b 1) (b 2) j))
  rw [X4_rot (b 0) (b 1) p j hj]
  rw [X4_rot (b 0) (b 1) (b 3) j hj]
  rw [X4_rot (b 0) (b 1) (b 2) j hj]
  generalize X4 p (b 0) (b 1) j = x at *
  generalize X4 (b 3) (b 0) (b 1) j = y at *
  generalize X4 (b 2) (b 0) (b 1) j = z at *
  generalize Det4 b = t at *
  generalize dot4 (Adj b 3) p = u at *
  generalize dot4 (Adj b 2) p = v at *
  grind
/-- the rows behind an exchange -/
theorem adj_rep (b : Nat → Nat → Int) (p : Nat → Int) : ∀ l, l < 4 → ∀ i, i < 4 → i ≠ l → ∀ j, j < 4 → Det4 b * Adj (va_up b l p) i j = dot4 (Adj b l) p * Adj b i j - dot4 (Adj b i) p * Adj b l j := by
  apply all4
  · exact all4 (fun h => absurd rfl h) (fun _ => adj_rep01 b p) (fun _ => adj_rep02 b p) (fun _ => adj_rep03 b p)
  · exact all4 (fun _ => adj_rep10 b p) (fun h => absurd rfl h) (fun _ => adj_rep12 b p) (fun _ => adj_rep13 b p)
  · exact all4 (fun _ => adj_rep20 b p) (fun _ => adj_rep21 b p) (fun h => absurd rfl h) (fun _ => adj_rep23 b p)
  · exact all4 (fun _ => adj_rep30 b p) (fun _ => adj_rep31 b p) (fun _ => adj_rep32 b p) (fun h => absurd rfl h)
