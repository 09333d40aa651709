/-! one state of the simplex method, and the next -/
def PT (W n : Nat) (w p : Nat → Nat) : Prop := (∀ k, k < 4 → p k ≤ 60) ∧ (∀ k, n ≤ k → k < 4 → p k = 0) ∧ ps w p n ≤ W
def bv (n : Nat) (pt : Nat → Nat → Nat) (i k : Nat) : Int := if i < n then ((pt i k : Nat) : Int) else if k = i then 1 else 0
def LPos (R : Nat → Nat → Int) (n i : Nat) : Prop := ∃ c, c ≤ n ∧ (∀ c', c' < c → R i c' = 0) ∧ 0 < R i c
def SI (W n : Nat) (w q : Nat → Nat) (R : Nat → Nat → Int) (Dt : Int) (pt : Nat → Nat → Nat) (σ : Int) : Prop :=
  (σ = 1 ∨ σ = -1) ∧ Dt = σ * Det4 (bv n pt) ∧ 0 < Dt ∧ (∀ i, i < n → ∀ j, j < n → R i (j + 1) = σ * Adj (bv n pt) i j) ∧ (∀ i, i < n → R i 0 = dotp (R i) q n) ∧ (∀ i, i < n → LPos R n i) ∧ ∀ i, i < n → PT W n w (pt i)
theorem sm_add {A B a b : Int} (ha : Sm A a) (hb : Sm B b) : Sm (A + B) (a + b) := by unfold Sm at *; omega
theorem sm_sub {A B a b : Int} (ha : Sm A a) (hb : Sm B b) : Sm (A + B) (a - b) := by unfold Sm at *; omega
theorem sm_neg {A a : Int} (ha : Sm A a) : Sm A (-a) := by unfold Sm at *; omega
theorem sm_le {A B a : Int} (h : A ≤ B) (ha : Sm A a) : Sm B a := by unfold Sm at *; omega
theorem sm_d3 {a b c : Nat → Int} (ha : ∀ k, k < 4 → Sm 60 (a k)) (hb : ∀ k, k < 4 → Sm 60 (b k)) (hc : ∀ k, k < 4 → Sm 60 (c k)) {i j k : Nat} (hi : i < 4) (hj : j < 4) (hk : k < 4) : Sm 1296000 (d3 a b c i j k) := by
  have m : ∀ x y : Int, Sm 60 x → Sm 60 y → Sm 3600 (x * y) := fun x y hx hy => by
    have := sm_mul (by decide) (by decide) hx hy
    exact this
  have m2 : ∀ x y : Int, Sm 60 x → Sm 7200 y → Sm 432000 (x * y) := fun x y hx hy => by
    have := sm_mul (by decide) (by decide) hx hy
    exact this
  have e1 : Sm 7200 (b j * c k - b k * c j) := sm_sub (m _ _ (hb j hj) (hc k hk)) (m _ _ (hb k hk) (hc j hj))
  have e2 : Sm 7200 (b i * c k - b k * c i) := sm_sub (m _ _ (hb i hi) (hc k hk)) (m _ _ (hb k hk) (hc i hi))
  have e3 : Sm 7200 (b i * c j - b j * c i) := sm_sub (m _ _ (hb i hi) (hc j hj)) (m _ _ (hb j hj) (hc i hi))
  exact sm_add (sm_sub (m2 _ _ (ha i hi) e1) (m2 _ _ (ha j hj) e2)) (m2 _ _ (ha k hk) e3)
theorem sm_X4 {a b c : Nat → Int} (ha : ∀ k, k < 4 → Sm 60 (a k)) (hb : ∀ k, k < 4 → Sm 60 (b k)) (hc : ∀ k, k < 4 → Sm 60 (c k)) : ∀ j, j < 4 → Sm 1296000 (X4 a b c j) := by
  apply all4
  · exact sm_d3 ha hb hc (by decide) (by decide) (by decide)
  · exact sm_neg (sm_d3 ha hb hc (by decide) (by decide) (by decide))
  · exact sm_d3 ha hb hc (by decide) (by decide) (by decide)
  · exact sm_neg (sm_d3 ha hb hc (by decide) (by decide) (by decide))
theorem sm_adj {b : Nat → Nat → Int} (hb : ∀ i, i < 4 → ∀ k, k < 4 → Sm 60 (b i k)) : ∀ i, i < 4 → ∀ j, j < 4 → Sm 1296000 (Adj b i j) := by
  apply all4
  · exact sm_X4 (hb 1 (by decide)) (hb 2 (by decide)) (hb 3 (by decide))
  · exact fun j hj => sm_neg (sm_X4 (hb 0 (by decide)) (hb 2 (by decide)) (hb 3 (by decide)) j hj)
  · exact sm_X4 (hb 0 (by decide)) (hb 1 (by decide)) (hb 3 (by decide))
  · exact fun j hj => sm_neg (sm_X4 (hb 0 (by decide)) (hb 1 (by decide)) (hb 2 (by decide)) j hj)
theorem sm_dot {A B : Int} {u v : Nat → Int} (hA : 0 ≤ A) (hB : 0 ≤ B) (hu : ∀ k, k < 4 → Sm A (u k)) (hv : ∀ k, k < 4 → Sm B (v k)) : Sm (A * B + A * B + A * B + A * B) (dot4 u v) :=
  sm_add (sm_add (sm_add (sm_mul hA hB (hu 0 (by decide)) (hv 0 (by decide))) (sm_mul hA hB (hu 1 (by decide)) (hv 1 (by decide)))) (sm_mul hA hB (hu 2 (by decide)) (hv 2 (by decide)))) (sm_mul hA hB (hu 3 (by decide)) (hv 3 (by decide)))
/-! sums -/
theorem dotp_congr {r r' : Nat → Int} {e e' : Nat → Nat} : ∀ n, (∀ k, k < n → r (k + 1) = r' (k + 1) ∧ e k = e' k) → dotp r e n = dotp r' e' n
  | 0, _ => rfl
  | n + 1, h => by
    show dotp r e n + r (n + 1) * (e n : Int) = dotp r' e' n + r' (n + 1) * (e' n : Int)
    rw [dotp_congr n (fun k hk => h k (by omega)), (h n (by omega)).1, (h n (by omega)).2]
theorem dotp_lin {r r' : Nat → Int} {e : Nat → Nat} {a b : Int} : ∀ n, a * dotp r e n - b * dotp r' e n = dotp (fun c => a * r c - b * r' c) e n
  | 0 => by simp [dotp]
  | n + 1 => by
    have ih := dotp_lin (r := r) (r' := r') (e := e) (a := a) (b := b) n
    show a * (dotp r e n + r (n + 1) * (e n : Int)) - b * (dotp r' e n + r' (n + 1) * (e n : Int)) = dotp (fun c => a * r c - b * r' c) e n + (a * r (n + 1) - b * r' (n + 1)) * (e n : Int)
    rw [← ih]
    grind
theorem dotp_mul {r : Nat → Int} {e : Nat → Nat} {a : Int} : ∀ n, dotp (fun c => a * r c) e n = a * dotp r e n
  | 0 => by simp [dotp]
  | n + 1 => by
    have ih := dotp_mul (r := r) (e := e) (a := a) n
    show dotp (fun c => a * r c) e n + a * r (n + 1) * (e n : Int) = a * (dotp r e n + r (n + 1) * (e n : Int))
    rw [ih]
    grind
theorem dotp_n {r : Nat → Int} {e : Nat → Nat} {n : Nat} (h : ∀ k, n ≤ k → k < 4 → e k = 0) : ∀ m, n + m ≤ 4 → dotp r e (n + m) = dotp r e n
  | 0, _ => rfl
  | m + 1, hm => by
    show dotp r e (n + m) + r (n + m + 1) * (e (n + m) : Int) = _
    rw [h (n + m) (by omega) (by omega), dotp_n h m (by omega)]
    simp
theorem dotp_4 {u : Nat → Int} {e : Nat → Nat} {n : Nat} (hn : n ≤ 4) (h : ∀ k, n ≤ k → k < 4 → e k = 0) : dotp (fun c => u (c - 1)) e n = dot4 u (fun k => (e k : Int)) := by
  have h1 := dotp_n (r := fun c => u (c - 1)) h (4 - n) (by omega)
  rw [show n + (4 - n) = 4 by omega] at h1
  rw [← h1]
  show 0 + u 0 * (e 0 : Int) + u 1 * (e 1 : Int) + u 2 * (e 2 : Int) + u 3 * (e 3 : Int) = _
  simp only [dot4]
  omega
def ssum (s : Nat → Int) : Nat → Int
  | 0 => 0
  | i + 1 => ssum s i + s i
theorem csum_lin {R : Nat → Nat → Int} {s : Nat → Int} {a : Int} {l c : Nat} : ∀ n, csum (fun i c => a * R i c - s i * R l c) c n = a * csum R c n - ssum s n * R l c
  | 0 => by simp [csum, ssum]
  | n + 1 => by
    have ih := csum_lin (R := R) (s := s) (a := a) (l := l) (c := c) n
    show csum (fun i c => a * R i c - s i * R l c) c n + (a * R n c - s n * R l c) = a * (csum R c n + R n c) - (ssum s n + s n) * R l c
    rw [ih]
    grind
/-- a sum in which one term is more by x -/
theorem csum_one {T U : Nat → Nat → Int} {l c : Nat} {x : Int} (hx : T l c = U l c + x) (ho : ∀ i, i ≠ l → T i c = U i c) : ∀ n, (n ≤ l → csum T c n = csum U c n) ∧ (l < n → csum T c n = csum U c n + x)
  | 0 => ⟨fun _ => rfl, fun h => absurd h (Nat.not_lt_zero l)⟩
  | n + 1 => by
    have ih := csum_one hx ho n
    refine ⟨fun h => ?_, fun h => ?_⟩
    · show csum T c n + T n c = csum U c n + U n c
      rw [ih.1 (by omega), ho n (by omega)]
    · show csum T c n + T n c = csum U c n + U n c + x
      by_cases e : n = l
      · subst e
        rw [ih.1 (Nat.le_refl n), hx]
        omega
      · rw [ih.2 (by omega), ho n e]
        omega
theorem csum_mul {R : Nat → Nat → Int} {a : Int} {c : Nat} : ∀ n, csum (fun i c => a * R i c) c n = a * csum R c n
  | 0 => by simp [csum]
  | n + 1 => by
    have ih := csum_mul (R := R) (a := a) (c := c) n
    show csum (fun i c => a * R i c) c n + a * R n c = a * (csum R c n + R n c)
    rw [ih, Int.mul_add]
theorem csum_congr {R R' : Nat → Nat → Int} {c : Nat} : ∀ n, (∀ i, i < n → R i c = R' i c) → csum R c n = csum R' c n
  | 0, _ => rfl
  | n + 1, h => by
    show csum R c n + R n c = csum R' c n + R' n c
    rw [csum_congr n (fun i hi => h i (by omega)), h n (by omega)]
theorem csum_sm {R : Nat → Nat → Int} {c n : Nat} {A : Int} (hA : 0 ≤ A) (hn : n ≤ 4) (h : ∀ i, i < n → Sm A (R i c)) : Sm (4 * A) (csum R c n) := by
  have key : ∀ m, m ≤ n → Sm ((m : Int) * A) (csum R c m) := by
    intro m
    induction m with
    | zero => intro _; show Sm _ 0; unfold Sm; simp
    | succ m ih =>
      intro hm
      have h1 := sm_add (ih (by omega)) (h m (by omega))
      have h2 : ((m + 1 : Nat) : Int) * A = (m : Int) * A + A := by rw [Int.natCast_add, Int.add_mul, Int.natCast_one, Int.one_mul]
      rw [h2]
      exact h1
  refine sm_le ?_ (key n (Nat.le_refl n))
  exact Int.mul_le_mul_of_nonneg_right (by omega) hA
/-- the sum of the shares is what the pattern is worth -/
theorem ssum_dotp {R : Nat → Nat → Int} {e : Nat → Nat} {n : Nat} : ∀ m, ssum (fun i => dotp (R i) e n) m = dotp (fun c => csum R c m) e n
  | 0 => by
    have : ∀ n, dotp (fun c => csum R c 0) e n = 0 := fun n => by
      induction n with
      | zero => rfl
      | succ n ih => show dotp (fun c => csum R c 0) e n + 0 * (e n : Int) = 0; rw [ih]; simp
    rw [this]
    rfl
  | m + 1 => by
    have ih := ssum_dotp (R := R) (e := e) (n := n) m
    show ssum (fun i => dotp (R i) e n) m + dotp (R m) e n = _
    rw [ih]
    have h := dotp_lin (r := fun c => csum R c m) (r' := R m) (e := e) (a := 1) (b := -1) n
    have h2 : dotp (fun c => 1 * csum R c m - -1 * R m c) e n = dotp (fun c => csum R c (m + 1)) e n := dotp_congr n (fun k _ => ⟨by show 1 * csum R (k + 1) m - -1 * R m (k + 1) = csum R (k + 1) m + R m (k + 1); omega, rfl⟩)
    rw [h2] at h
    rw [← h]
    omega
theorem dotp_vl {y : Nat → Int} {e : Nat → Nat} : ∀ n, dotp (fun c => y (c - 1)) e n = vl y e n
  | 0 => rfl
  | n + 1 => by
    show dotp (fun c => y (c - 1)) e n + y n * (e n : Int) = vl y e n + (e n : Int) * y n
    rw [dotp_vl n, Int.mul_comm]
section STEP
variable {W n : Nat} {w q : Nat → Nat} {R : Nat → Nat → Int} {Dt σ : Int} {pt : Nat → Nat → Nat}
theorem bv_up {l : Nat} (hl : l < n) (e : Nat → Nat) : bv n (va_up pt l e) = va_up (bv n pt) l (fun k => (e k : Int)) := by
  funext i k
  by_cases h : i = l
  · subst h
    rw [show va_up (bv n pt) i (fun k => (e k : Int)) i = (fun k => (e k : Int)) from if_pos rfl]
    show bv n (va_up pt i e) i k = (e k : Int)
    unfold bv
    rw [if_pos hl, show va_up pt i e i = e from if_pos rfl]
  · rw [show va_up (bv n pt) l (fun k => (e k : Int)) i = bv n pt i from if_neg h]
    show bv n (va_up pt l e) i k = bv n pt i k
    unfold bv
    rw [show va_up pt l e i = pt i from if_neg h]
theorem bv_sm (S : ∀ i, i < n → PT W n w (pt i)) : ∀ i, i < 4 → ∀ k, k < 4 → Sm 60 (bv n pt i k) := by
  intro i hi k hk
  unfold bv
  split
  · rename_i h
    have := (S i h).1 k hk
    unfold Sm
    omega
  · split <;> (unfold Sm; omega)
theorem dotp_adj (hn : n ≤ 4) (S : SI W n w q R Dt pt σ) {e : Nat → Nat} (he : ∀ k, n ≤ k → k < 4 → e k = 0) {i : Nat} (hi : i < n) : dotp (R i) e n = σ * dot4 (Adj (bv n pt) i) (fun k => (e k : Int)) := by
  rw [← dotp_4 hn he, ← dotp_mul]
  exact dotp_congr n (fun k hk => ⟨by rw [S.2.2.2.1 i hi k hk]; rfl, rfl⟩)
theorem sig_sq (S : SI W n w q R Dt pt σ) : σ * σ = 1 := by
  rcases S.1 with h | h <;> rw [h] <;> decide
theorem si_R (hn : n ≤ 4) (hq : Cnt n q) (S : SI W n w q R Dt pt σ) : (∀ i j, i < n → j ≤ n → Sm 33554432 (R i j)) ∧ (∀ i j, i < n → j < n → Sm 1296000 (R i (j + 1))) ∧ Dt ≤ 536870912 := by
  have hA := sm_adj (bv_sm S.2.2.2.2.2.2)
  have sg : ∀ {A x : Int}, Sm A x → Sm A (σ * x) := by
    intro A x hx
    rcases S.1 with h | h
    · rw [h, Int.one_mul]; exact hx
    · rw [h, Int.neg_one_mul]; exact sm_neg hx
  have h1 : ∀ i j, i < n → j < n → Sm 1296000 (R i (j + 1)) := fun i j hi hj => by rw [S.2.2.2.1 i hi j hj]; exact sg (hA i (by omega) j (by omega))
  have h0 : ∀ i, i < n → Sm 31104000 (R i 0) := fun i hi => by
    rw [S.2.2.2.2.1 i hi, dotp_adj hn S hq.2 hi]
    have := sm_dot (A := 1296000) (B := 6) (by decide) (by decide) (hA i (by omega)) (v := fun k => (q k : Int)) (fun k hk => by have := hq.1 k hk; unfold Sm; omega)
    exact sg this
  refine ⟨fun i j hi hj => ?_, h1, ?_⟩
  · by_cases e : j = 0
    · rw [e]; exact sm_le (by decide) (h0 i hi)
    · obtain ⟨k, rfl⟩ : ∃ k, j = k + 1 := ⟨j - 1, by omega⟩
      exact sm_le (by decide) (h1 i k hi (by omega))
  · rw [S.2.1]
    have hd : Sm (60 * 1296000 + 60 * 1296000 + 60 * 1296000 + 60 * 1296000) (Det4 (bv n pt)) := sm_dot (by decide) (by decide) (bv_sm S.2.2.2.2.2.2 0 (by decide)) (hA 0 (by decide))
    have := (sg hd).2
    have h9 : (60 * 1296000 + 60 * 1296000 + 60 * 1296000 + 60 * 1296000 : Int) ≤ 536870912 := by decide
    omega
theorem si_s (hn : n ≤ 4) (S : SI W n w q R Dt pt σ) {e : Nat → Nat} (he : PT W n w e) : ∀ i, i < n → Sm 536870912 (dotp (R i) e n) := by
  intro i hi
  have hA := sm_adj (bv_sm S.2.2.2.2.2.2)
  rw [dotp_adj hn S he.2.1 hi]
  have h1 := sm_dot (A := 1296000) (B := 60) (by decide) (by decide) (hA i (by omega)) (v := fun k => (e k : Int)) (fun k hk => by have := he.1 k hk; unfold Sm; omega)
  have h2 : Sm 536870912 (dot4 (Adj (bv n pt) i) (fun k => (e k : Int))) := sm_le (by decide) h1
  rcases S.1 with h | h
  · rw [h, Int.one_mul]; exact h2
  · rw [h, Int.neg_one_mul]; exact sm_neg h2
theorem si_y (hn : n ≤ 4) (hq : Cnt n q) (S : SI W n w q R Dt pt σ) : ∀ k, k < n → Sm 134217728 (csum R (k + 1) n) := fun k hk =>
  sm_le (by decide) (csum_sm (A := 1296000) (by decide) hn (fun i hi => (si_R hn hq S).2.1 i k hi hk))
/-- the exchange, column by column -/
theorem ex_col (hn : n ≤ 4) (S : SI W n w q R Dt pt σ) {e : Nat → Nat} (he : PT W n w e) {l : Nat} (hl : l < n) {i : Nat} (hi : i < n) (hil : i ≠ l) :
    (∀ j, j < n → dotp (R l) e n * R i (j + 1) - dotp (R i) e n * R l (j + 1) = Dt * (σ * Adj (bv n (va_up pt l e)) i j)) := by
  intro j hj
  have h := adj_rep (bv n pt) (fun k => (e k : Int)) l (by omega) i (by omega) hil j (by omega)
  rw [← bv_up hl e] at h
  have hs := sig_sq S
  rw [dotp_adj hn S he.2.1 hl, dotp_adj hn S he.2.1 hi, S.2.2.2.1 i hi j hj, S.2.2.2.1 l hl j hj, S.2.1]
  generalize dot4 (Adj (bv n pt) l) (fun k => (e k : Int)) = u at *
  generalize dot4 (Adj (bv n pt) i) (fun k => (e k : Int)) = v at *
  generalize Adj (bv n pt) i j = x at *
  generalize Adj (bv n pt) l j = y at *
  generalize Adj (bv n (va_up pt l e)) i j = z at *
  generalize Det4 (bv n pt) = t at *
  grind
theorem ex_all (hn : n ≤ 4) (S : SI W n w q R Dt pt σ) {e : Nat → Nat} (he : PT W n w e) {l : Nat} (hl : l < n) {i : Nat} (hi : i < n) (hil : i ≠ l) :
    ∀ c, c ≤ n → dotp (R l) e n * R i c - dotp (R i) e n * R l c = Dt * exR R (fun i => dotp (R i) e n) Dt l i c := by
  have hD : Dt ≠ 0 := by have := S.2.2.1; omega
  have hex : ∀ c x, dotp (R l) e n * R i c - dotp (R i) e n * R l c = Dt * x → exR R (fun i => dotp (R i) e n) Dt l i c = x := by
    intro c x hx
    unfold exR
    rw [if_neg hil, hx]
    exact Int.mul_tdiv_cancel_left x hD
  intro c hc
  by_cases e0 : c = 0
  · subst e0
    have h1 := dotp_lin (r := R i) (r' := R l) (e := q) (a := dotp (R l) e n) (b := dotp (R i) e n) n
    have h2 : dotp (fun c => dotp (R l) e n * R i c - dotp (R i) e n * R l c) q n = dotp (fun c => Dt * (σ * Adj (bv n (va_up pt l e)) i (c - 1))) q n := dotp_congr n (fun k hk => ⟨ex_col hn S he hl hi hil k hk, rfl⟩)
    rw [h2, dotp_mul, ← S.2.2.2.2.1 i hi, ← S.2.2.2.2.1 l hl] at h1
    rw [h1, hex 0 _ h1]
  · obtain ⟨k, rfl⟩ : ∃ k, c = k + 1 := ⟨c - 1, by omega⟩
    have h1 := ex_col hn S he hl hi hil k (by omega)
    rw [h1, hex _ _ h1]
theorem ex_row {s : Nat → Int} {l c : Nat} : exR R s Dt l l c = R l c := if_pos rfl
end STEP
