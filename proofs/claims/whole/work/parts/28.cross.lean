/-! the cross product of three vectors of four numbers -/
def d3 (a b c : Nat → Int) (i j k : Nat) : Int := a i * (b j * c k - b k * c j) - a j * (b i * c k - b k * c i) + a k * (b i * c j - b j * c i)
def X4 (a b c : Nat → Int) (j : Nat) : Int := match j with
  | 0 => d3 a b c 1 2 3
  | 1 => -d3 a b c 0 2 3
  | 2 => d3 a b c 0 1 3
  | _ => -d3 a b c 0 1 2
def dot4 (u v : Nat → Int) : Int := u 0 * v 0 + u 1 * v 1 + u 2 * v 2 + u 3 * v 3
theorem X4_s12 (a b c : Nat → Int) : ∀ j, j < 4 → X4 a b c j = -X4 b a c j := by
  apply all4 <;> simp only [X4, d3] <;> grind
theorem X4_s23 (a b c : Nat → Int) : ∀ j, j < 4 → X4 a b c j = -X4 a c b j := by
  apply all4 <;> simp only [X4, d3] <;> grind
theorem X4_11 (a c : Nat → Int) : ∀ j, j < 4 → X4 a a c j = 0 := by
  apply all4 <;> simp only [X4, d3] <;> grind
theorem dot_X1 (a b c : Nat → Int) : dot4 a (X4 a b c) = 0 := by
  simp only [dot4, X4, d3]
  grind
theorem dot_X2 (a b c : Nat → Int) : dot4 b (X4 a b c) = 0 := by
  simp only [dot4, X4, d3]
  grind
theorem dot_X3 (a b c : Nat → Int) : dot4 c (X4 a b c) = 0 := by
  simp only [dot4, X4, d3]
  grind
/-- one vector written by four others -/
theorem X4_lin {s0 s1 s2 s3 t : Int} {p b0 b1 b2 b3 : Nat → Int} (y z : Nat → Int) (h : ∀ k, k < 4 → t * p k = s0 * b0 k + s1 * b1 k + s2 * b2 k + s3 * b3 k) : ∀ j, j < 4 → t * X4 p y z j = s0 * X4 b0 y z j + s1 * X4 b1 y z j + s2 * X4 b2 y z j + s3 * X4 b3 y z j := by
  have h0 := h 0 (by omega)
  have h1 := h 1 (by omega)
  have h2 := h 2 (by omega)
  have h3 := h 3 (by omega)
  apply all4 <;> simp only [X4, d3] <;> grind
theorem recomb (b0 b1 b2 b3 v : Nat → Int) : ∀ k, k < 4 → dot4 (X4 b1 b2 b3) v * b0 k - dot4 (X4 b0 b2 b3) v * b1 k + dot4 (X4 b0 b1 b3) v * b2 k - dot4 (X4 b0 b1 b2) v * b3 k = dot4 b0 (X4 b1 b2 b3) * v k := by
  apply all4 <;> simp only [dot4, X4, d3] <;> grind
