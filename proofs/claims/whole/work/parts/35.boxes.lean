/-! every extreme pattern lies in a counted box, no two in one -/
theorem bx_len (cd : Nat → Nat → Bool) (nx : Nat → Nat → Nat) : ∀ (f : Nat) (ws : List Nat) (S c cod : Nat), (bxG cd nx f ws S c cod).length = cnG cd nx f ws S
  | 0, _, _, _, _ => rfl
  | f + 1, [], _, _, _ => rfl
  | f + 1, x :: ws, S, c, cod => by
    have e1 : bxG cd nx (f + 1) (x :: ws) S c cod = bxG cd nx f ws S 0 (cod * 6 + c) ++ (cond (cd S x) (bxG cd nx f ((2 * x) :: ws) (nx S x) (c + 1) cod) []) := rfl
    have e2 : cnG cd nx (f + 1) (x :: ws) S = cnG cd nx f ws S + (cond (cd S x) (cnG cd nx f ((2 * x) :: ws) (nx S x)) 0) := rfl
    rw [e1, e2, List.length_append, bx_len cd nx f ws S 0 _]
    cases cd S x
    · rfl
    · show _ + (bxG cd nx f ((2 * x) :: ws) (nx S x) (c + 1) cod).length = _ + cnG cd nx f ((2 * x) :: ws) (nx S x)
      rw [bx_len cd nx f _ _ _ _]
theorem nbeq {a b : Nat} (h : a = b) : Nat.beq a b = true := by rw [h]; exact Nat.beq_refl b
def cls (x : Nat) : Nat := Nat.log2 (x + 1)
theorem cls_lo (x : Nat) : 2 ^ cls x ≤ x + 1 := Nat.log2_self_le (by omega)
theorem cls_hi (x : Nat) : x + 1 < 2 * 2 ^ cls x := by
  have h : x + 1 < 2 ^ (cls x + 1) := Nat.lt_log2_self
  rw [Nat.pow_succ] at h
  omega
theorem cls_6 {x : Nat} (h : x ≤ 60) : cls x < 6 := (Nat.log2_lt (by omega)).mpr (by omega)
theorem cls_0 : cls 0 = 0 := rfl
def rs (w : Nat → Nat) : Nat → Nat → List Nat
  | _, 0 => []
  | k, m + 1 => w k :: rs w (k + 1) m
def cd4 (p : Nat → Nat) : Nat → Nat → Nat → Nat
  | _, 0, cod => cod
  | k, m + 1, cod => cd4 p (k + 1) m (cod * 6 + cls (p k))
def bxcode (p : Nat → Nat) : Nat := ((cls (p 0) * 6 + cls (p 1)) * 6 + cls (p 2)) * 6 + cls (p 3)
theorem bx_mem {cd : Nat → Nat → Bool} {nx : Nat → Nat → Nat} {w p : Nat → Nat} {Inv : Nat → Nat → Nat → Prop} (hp : ∀ k, k < 4 → p k ≤ 60)
    (hstep : ∀ k c S, k < 4 → c < cls (p k) → Inv k c S → cd S (w k * 2 ^ c) = true ∧ Inv k (c + 1) (nx S (w k * 2 ^ c)))
    (hnext : ∀ k S, k < 4 → Inv k (cls (p k)) S → Inv (k + 1) 0 S) :
    ∀ m k f S cod, k + m = 4 → 7 * m + 1 ≤ f → Inv k 0 S → cd4 p k m cod ∈ bxG cd nx f (rs w k m) S 0 cod := by
  intro m
  induction m with
  | zero =>
    intro k f S cod _ hf _
    obtain ⟨f', rfl⟩ : ∃ f', f = f' + 1 := ⟨f - 1, by omega⟩
    exact List.mem_singleton.mpr rfl
  | succ m ih =>
    intro k f S cod hk hf hI
    have h6 := cls_6 (hp k (by omega))
    have inner : ∀ d c f S, c + d = cls (p k) → 7 * m + 1 + d + 1 ≤ f → Inv k c S → cd4 p (k + 1) m (cod * 6 + cls (p k)) ∈ bxG cd nx f ((w k * 2 ^ c) :: rs w (k + 1) m) S c cod := by
      intro d
      induction d with
      | zero =>
        intro c f S hc hf hI
        obtain ⟨f', rfl⟩ : ∃ f', f = f' + 1 := ⟨f - 1, by omega⟩
        have e1 : bxG cd nx (f' + 1) ((w k * 2 ^ c) :: rs w (k + 1) m) S c cod = bxG cd nx f' (rs w (k + 1) m) S 0 (cod * 6 + c) ++ (cond (cd S (w k * 2 ^ c)) (bxG cd nx f' ((2 * (w k * 2 ^ c)) :: rs w (k + 1) m) (nx S (w k * 2 ^ c)) (c + 1) cod) []) := rfl
        rw [e1]
        refine List.mem_append_left _ ?_
        have hc' : c = cls (p k) := by omega
        rw [← hc']
        exact ih (k + 1) f' S _ (by omega) (by omega) (hnext k S (by omega) (hc' ▸ hI))
      | succ d ihd =>
        intro c f S hc hf hI
        obtain ⟨f', rfl⟩ : ∃ f', f = f' + 1 := ⟨f - 1, by omega⟩
        have e1 : bxG cd nx (f' + 1) ((w k * 2 ^ c) :: rs w (k + 1) m) S c cod = bxG cd nx f' (rs w (k + 1) m) S 0 (cod * 6 + c) ++ (cond (cd S (w k * 2 ^ c)) (bxG cd nx f' ((2 * (w k * 2 ^ c)) :: rs w (k + 1) m) (nx S (w k * 2 ^ c)) (c + 1) cod) []) := rfl
        obtain ⟨s1, s2⟩ := hstep k c S (by omega) (by omega) hI
        have e2 : 2 * (w k * 2 ^ c) = w k * 2 ^ (c + 1) := by rw [Nat.pow_succ]; grind
        rw [e1, s1, e2]
        exact List.mem_append_right _ (ihd (c + 1) f' _ (by omega) (by omega) s2)
    have h := inner (cls (p k)) 0 f S (by omega) (by omega) hI
    rw [show w k * 2 ^ 0 = w k by simp] at h
    exact h
/-! the two kinds of counting -/
def lv (p : Nat → Nat) (k c j : Nat) : Nat := if j < k then 2 ^ cls (p j) - 1 else if j = k then 2 ^ c - 1 else 0
theorem lv_next {p : Nat → Nat} (k j : Nat) : lv p k (cls (p k)) j = lv p (k + 1) 0 j := by
  unfold lv
  by_cases h1 : j < k
  · rw [if_pos h1, if_pos (by omega)]
  · rw [if_neg h1]
    by_cases h2 : j = k
    · subst h2; rw [if_pos rfl, if_pos (by omega)]
    · rw [if_neg h2, if_neg (by omega)]
      split <;> rfl
theorem lv_up {p : Nat → Nat} (k c : Nat) : lv p k (c + 1) = va_up (lv p k c) k (lv p k c k + 2 ^ c) := by
  funext j
  unfold lv va_up
  have h2 : 0 < 2 ^ c := Nat.pow_pos (by decide)
  by_cases h1 : j = k
  · subst h1
    rw [if_neg (Nat.lt_irrefl j), if_pos rfl, if_pos rfl, if_neg (Nat.lt_irrefl j), if_pos rfl, Nat.pow_succ]
    omega
  · rw [if_neg h1, if_neg h1]
    show _ = if j < k then 2 ^ cls (p j) - 1 else if j = k then 2 ^ c - 1 else 0
    rw [if_neg h1]
theorem lv_le {p : Nat → Nat} {k c : Nat} (hc : c ≤ cls (p k)) (j : Nat) : lv p k c j ≤ p j := by
  unfold lv
  have h1 := cls_lo (p j)
  split
  · omega
  · split
    · rename_i h; subst h
      have := Nat.pow_le_pow_right (n := 2) (by decide) hc
      omega
    · omega
theorem ps_upt {w p : Nat → Nat} {k t : Nat} : ∀ n, k < n → ps w (va_up p k (p k + t)) n = ps w p n + t * w k
  | 0, h => absurd h (Nat.not_lt_zero k)
  | n + 1, h => by
    show ps w (va_up p k (p k + t)) n + va_up p k (p k + t) n * w n = ps w p n + p n * w n + t * w k
    by_cases e : k = n
    · subst e
      rw [ps_upd k (Nat.le_refl k), show va_up p k (p k + t) k = p k + t from if_pos rfl, Nat.add_mul]
      omega
    · rw [ps_upt n (by omega), show va_up p k (p k + t) n = p n from if_neg (by omega)]
      omega
theorem ps_lin {w a b c d : Nat → Nat} : ∀ n, (∀ j, j < n → a j + b j = c j + d j) → ps w a n + ps w b n = ps w c n + ps w d n
  | 0, _ => rfl
  | n + 1, h => by
    have ih := ps_lin (w := w) n (fun j hj => h j (by omega))
    have h1 : (a n + b n) * w n = (c n + d n) * w n := by rw [h n (by omega)]
    rw [Nat.add_mul, Nat.add_mul] at h1
    show ps w a n + a n * w n + (ps w b n + b n * w n) = ps w c n + c n * w n + (ps w d n + d n * w n)
    omega
theorem ps_wmono {w w' p : Nat → Nat} : ∀ n, (∀ j, j < n → w' j ≤ w j) → ps w' p n ≤ ps w p n
  | 0, _ => Nat.le_refl _
  | n + 1, h => Nat.add_le_add (ps_wmono n (fun j hj => h j (by omega))) (Nat.mul_le_mul_left _ (h n (by omega)))
def EP (W : Nat) (w p : Nat → Nat) : Prop := Extp W 4 w p ∧ ps w p 4 ≤ W ∧ (∃ k, k < 4 ∧ p k ≠ 0) ∧ ∀ k, k < 4 → p k ≤ 60
theorem code_cd4 (p : Nat → Nat) : cd4 p 0 4 0 = bxcode p := by
  show (((0 * 6 + cls (p 0)) * 6 + cls (p 1)) * 6 + cls (p 2)) * 6 + cls (p 3) = _
  unfold bxcode
  omega
section BOX
variable {W : Nat} {w p : Nat → Nat}
theorem bx_plain {w' : Nat → Nat} (hW : W ≤ 60) (hp : ∀ k, k < 4 → p k ≤ 60) (hs : ps w p 4 ≤ W) (hw : ∀ j, j < 4 → w' j ≤ w j) : bxcode p ∈ bxG pcd Nat.add 29 [w' 0, w' 1, w' 2, w' 3] 0 0 0 := by
  rw [← code_cd4]
  refine bx_mem (w := w') (p := p) (Inv := fun k c S => S = ps w' (lv p k c) 4) hp ?_ ?_ 4 0 29 0 0 rfl (by decide) ?_
  · intro k c S hk hc hS
    have e : S + w' k * 2 ^ c = ps w' (lv p k (c + 1)) 4 := by
      rw [lv_up, ps_upt 4 hk, hS, Nat.mul_comm (w' k)]
    refine ⟨?_, e⟩
    have h1 : ps w' (lv p k (c + 1)) 4 ≤ ps w' p 4 := ps_mono 4 (fun j _ => lv_le (by omega) j)
    have h2 := ps_wmono (w := w) (w' := w') (p := p) 4 hw
    exact Nat.ble_eq_true_of_le (show S + w' k * 2 ^ c ≤ 60 by omega)
  · intro k S _ hS
    rw [hS]
    exact ps_congr 4 (fun j _ => lv_next k j)
  · show 0 = ps w' (lv p 0 0) 4
    simp [ps, lv]
theorem bx_mask (hW : W ≤ 60) (hp : ∀ k, k < 4 → p k ≤ 60) (hx : Extp W 4 w p) (hs : ps w p 4 ≤ W) : bxcode p ∈ bxG mcd mnx 29 [w 0, w 1, w 2, w 3] 1 0 0 := by
  rw [← code_cd4]
  refine bx_mem (w := w) (p := p) (Inv := fun k c S => ∀ s, S.testBit s = true → ∃ a : Nat → Nat, (∀ j, a j ≤ lv p k c j) ∧ ps w a 4 = s) hp ?_ ?_ 4 0 29 1 0 rfl (by decide) ?_
  · intro k c S hk hc hS
    have h2c : 0 < 2 ^ c := Nat.pow_pos (by decide)
    have hT : ∀ i, (S <<< (w k * 2 ^ c)).testBit i = true → ∃ b : Nat → Nat, (∀ j, b j ≤ lv p k (c + 1) j) ∧ ps w b 4 = i ∧ 2 ^ c ≤ b k := by
      intro i hi
      rw [Nat.testBit_shiftLeft, Bool.and_eq_true, decide_eq_true_eq] at hi
      obtain ⟨a, a1, a2⟩ := hS _ hi.2
      refine ⟨va_up a k (a k + 2 ^ c), fun j => ?_, ?_, ?_⟩
      · rw [lv_up]
        unfold va_up
        by_cases e : j = k
        · rw [if_pos e, if_pos e]
          have := a1 k
          omega
        · rw [if_neg e, if_neg e]; exact a1 j
      · rw [ps_upt 4 hk, a2, Nat.mul_comm (2 ^ c)]
        have := hi.1
        omega
      · rw [show va_up a k (a k + 2 ^ c) k = a k + 2 ^ c from if_pos rfl]
        omega
    have hle : ∀ b : Nat → Nat, (∀ j, b j ≤ lv p k (c + 1) j) → ∀ j, b j ≤ p j := fun b hb j => Nat.le_trans (hb j) (lv_le (by omega) j)
    refine ⟨?_, ?_⟩
    · have g1 : S &&& (S <<< (w k * 2 ^ c)) = 0 := by
        apply Classical.byContradiction
        intro hne
        obtain ⟨i, hi⟩ := Nat.exists_testBit_of_ne_zero hne
        rw [Nat.testBit_and, Bool.and_eq_true] at hi
        obtain ⟨a, a1, a2⟩ := hS _ hi.1
        obtain ⟨b, b1, b2, b3⟩ := hT _ hi.2
        have ha : ∀ j, a j ≤ p j := fun j => Nat.le_trans (a1 j) (lv_le (by omega) j)
        have hb := hle b b1
        have hak : a k < 2 ^ c := by
          have := a1 k
          unfold lv at this
          rw [if_neg (Nat.lt_irrefl k), if_pos rfl] at this
          omega
        have e1 := ps_lin (w := w) (a := fun j => p j + a j - b j) (b := b) (c := p) (d := a) 4 (fun j _ => by have := hb j; omega)
        have e2 := ps_lin (w := w) (a := fun j => p j + b j - a j) (b := a) (c := p) (d := b) 4 (fun j _ => by have := ha j; omega)
        have h := hx (fun j => p j + a j - b j) (fun j => p j + b j - a j) (by omega) (by omega) (fun j _ => by have := ha j; have := hb j; show p j + a j - b j + (p j + b j - a j) = 2 * p j; omega) k hk
        have h' : p k + a k - b k = p k := h
        have := hb k
        omega
      have g2 : S <<< (w k * 2 ^ c) < 2 ^ 61 := by
        apply Nat.lt_pow_two_of_testBit
        intro i hi
        apply Bool.eq_false_iff.mpr
        intro hb
        obtain ⟨b, b1, b2, b3⟩ := hT _ hb
        have := ps_mono (w := w) 4 (fun j (_ : j < 4) => hle b b1 j)
        omega
      show and (Nat.beq (Nat.land S (Nat.shiftLeft S (w k * 2 ^ c))) 0) (Nat.blt (Nat.shiftLeft S (w k * 2 ^ c)) 2305843009213693952) = true
      rw [Bool.and_eq_true]
      exact ⟨nbeq g1, Nat.ble_eq_true_of_le g2⟩
    · intro s hs
      have hs : (S ||| (S <<< (w k * 2 ^ c))).testBit s = true := hs
      rw [Nat.testBit_or, Bool.or_eq_true] at hs
      rcases hs with h | h
      · obtain ⟨a, a1, a2⟩ := hS _ h
        refine ⟨a, fun j => Nat.le_trans (a1 j) ?_, a2⟩
        rw [lv_up]
        unfold va_up
        split
        · rename_i e; rw [e]; omega
        · exact Nat.le_refl _
      · obtain ⟨b, b1, b2, _⟩ := hT _ h
        exact ⟨b, b1, b2⟩
  · intro k S _ hS s hs
    obtain ⟨a, a1, a2⟩ := hS s hs
    exact ⟨a, fun j => by rw [← lv_next]; exact a1 j, a2⟩
  · intro s hs
    have : s = 0 := Nat.testBit_one_eq_true_iff_self_eq_zero.mp hs
    exact ⟨fun _ => 0, fun _ => Nat.zero_le _, by rw [this]; simp [ps]⟩
theorem ps_dbl {w a : Nat → Nat} : ∀ n, ps w (fun j => 2 * a j) n = 2 * ps w a n
  | 0 => rfl
  | n + 1 => by
    show ps w (fun j => 2 * a j) n + 2 * a n * w n = 2 * (ps w a n + a n * w n)
    rw [ps_dbl n, Nat.mul_assoc]
    omega
theorem code_dig (hp : ∀ k, k < 4 → p k ≤ 60) : bxcode p / 216 = cls (p 0) ∧ bxcode p / 36 % 6 = cls (p 1) ∧ bxcode p / 6 % 6 = cls (p 2) ∧ bxcode p % 6 = cls (p 3) := by
  have h0 := cls_6 (hp 0 (by decide))
  have h1 := cls_6 (hp 1 (by decide))
  have h2 := cls_6 (hp 2 (by decide))
  have h3 := cls_6 (hp 3 (by decide))
  unfold bxcode
  omega
theorem cls_z {x : Nat} : cls x = 0 ↔ x = 0 := by
  constructor
  · intro h
    have := cls_hi x
    rw [h] at this
    omega
  · intro h; rw [h]; rfl
theorem ful_k (hx : Extp W 4 w p) {k : Nat} (hk : k < 4) (hpk : p k ≠ 0) : W < ps w p 4 + w k := by
  apply Nat.lt_of_not_le
  intro hle
  have e1 : ps w (va_up p k (p k + 1)) 4 = ps w p 4 + 1 * w k := ps_upt 4 hk
  have e2 : ps w (va_up p k (p k - 1)) 4 ≤ ps w p 4 := ps_mono 4 (fun j _ => by unfold va_up; split <;> (try subst j) <;> omega)
  have h := hx (va_up p k (p k + 1)) (va_up p k (p k - 1)) (by omega) (by omega) (fun j _ => by
    unfold va_up
    by_cases e : j = k
    · rw [if_pos e, if_pos e, e]; omega
    · rw [if_neg e, if_neg e]; omega) k hk
  rw [show va_up p k (p k + 1) k = p k + 1 from if_pos rfl] at h
  omega
theorem ful_ok (h : EP W w p) : ful W (w 0) (w 1) (w 2) (w 3) (bxcode p) = true := by
  obtain ⟨hx, hs, ⟨k, hk, hpk⟩, hp⟩ := h
  obtain ⟨d0, d1, d2, d3⟩ := code_dig hp
  have hl : lowS (w 0) (w 1) (w 2) (w 3) (bxcode p) = ps w (fun j => 2 ^ cls (p j) - 1) 4 := by
    unfold lowS
    rw [d0, d1, d2, d3]
    simp only [ps, Nat.mul_comm]
    omega
  have l1 : ps w (fun j => 2 ^ cls (p j) - 1) 4 ≤ ps w p 4 := ps_mono 4 (fun j _ => by show 2 ^ cls (p j) - 1 ≤ p j; have := cls_lo (p j); omega)
  have l2 : ps w p 4 ≤ 2 * ps w (fun j => 2 ^ cls (p j) - 1) 4 := by
    rw [← ps_dbl]
    exact ps_mono 4 (fun j _ => by show p j ≤ 2 * (2 ^ cls (p j) - 1); have := cls_hi (p j); omega)
  have hf : ∃ k, k < 4 ∧ p k ≠ 0 ∧ fstW (w 0) (w 1) (w 2) (w 3) (bxcode p) = w k := by
    unfold fstW
    rw [d0, d1, d2, d3]
    have nb : ∀ x, p x ≠ 0 → Nat.beq (cls (p x)) 0 = false := fun x hx => by
      apply Bool.eq_false_iff.mpr
      intro hb
      exact hx (cls_z.mp (Nat.eq_of_beq_eq_true hb))
    have zb : ∀ x, p x = 0 → Nat.beq (cls (p x)) 0 = true := fun x hx => by rw [hx]; rfl
    by_cases c0 : p 0 = 0
    · rw [zb 0 c0]
      by_cases c1 : p 1 = 0
      · rw [zb 1 c1]
        by_cases c2 : p 2 = 0
        · rw [zb 2 c2]
          have c3 : p 3 ≠ 0 := by
            match k, hk, hpk with
            | 0, _, h => exact absurd c0 h
            | 1, _, h => exact absurd c1 h
            | 2, _, h => exact absurd c2 h
            | 3, _, h => exact h
          rw [nb 3 c3]
          exact ⟨3, by decide, c3, rfl⟩
        · rw [nb 2 c2]; exact ⟨2, by decide, c2, rfl⟩
      · rw [nb 1 c1]; exact ⟨1, by decide, c1, rfl⟩
    · rw [nb 0 c0]; exact ⟨0, by decide, c0, rfl⟩
  obtain ⟨i, i1, i2, i3⟩ := hf
  have hfu := ful_k hx i1 i2
  unfold ful
  rw [i3, hl, Bool.and_eq_true]
  refine ⟨Nat.ble_eq_true_of_le (by omega), Nat.ble_eq_true_of_le ?_⟩
  show W + 1 ≤ _
  omega
/-- one box, one pattern -/
theorem box_inj {q : Nat → Nat} (h1 : EP W w p) (h2 : EP W w q) (hc : bxcode p = bxcode q) : ∀ k, k < 4 → p k = q k := by
  have key : ∀ {p q : Nat → Nat}, EP W w p → EP W w q → bxcode p = bxcode q → ps w p 4 ≤ ps w q 4 → ∀ k, k < 4 → p k = q k := by
    intro p q h1 h2 hc hle k hk
    obtain ⟨d0, d1, d2, d3⟩ := code_dig h1.2.2.2
    obtain ⟨e0, e1, e2, e3⟩ := code_dig h2.2.2.2
    have hcl : ∀ j, j < 4 → cls (p j) = cls (q j) := by
      apply all4
      · rw [← d0, hc, e0]
      · rw [← d1, hc, e1]
      · rw [← d2, hc, e2]
      · rw [← d3, hc, e3]
    have hq : ∀ j, j < 4 → q j ≤ 2 * p j := fun j hj => by
      have a1 := cls_lo (p j)
      have a2 := cls_hi (q j)
      rw [← hcl j hj] at a2
      omega
    have e := ps_lin (w := w) (a := fun j => 2 * p j - q j) (b := q) (c := p) (d := p) 4 (fun j hj => by have := hq j hj; omega)
    have h := h1.1 (fun j => 2 * p j - q j) q (by have := h1.2.1; omega) h2.2.1 (fun j hj => by show 2 * p j - q j + q j = 2 * p j; have := hq j hj; omega) k hk
    have h' : 2 * p k - q k = p k := h
    have := hq k hk
    omega
  rcases Nat.le_total (ps w p 4) (ps w q 4) with h | h
  · exact key h1 h2 hc h
  · intro k hk
    exact (key h2 h1 hc.symm h k hk).symm
end BOX
/-! numbers below 71 -/
def GL (W : Nat) (w : Nat → Nat) : Prop := ∃ A : List Nat, A.length ≤ 71 ∧ ∀ p, EP W w p → bxcode p ∈ A
def GF (W : Nat) (w : Nat → Nat) : Prop := ∃ f : (Nat → Nat) → Nat, (∀ p, EP W w p → f p < 71) ∧ ∀ p q, EP W w p → EP W w q → f p = f q → ∀ k, k < 4 → p k = q k
theorem gf_of {W : Nat} {w : Nat → Nat} (h : GL W w) : GF W w := by
  obtain ⟨A, a1, a2⟩ := h
  refine ⟨fun p => A.idxOf (bxcode p), fun p hp => ?_, fun p q hp hq he => ?_⟩
  · exact Nat.lt_of_lt_of_le (List.idxOf_lt_length_of_mem (a2 p hp)) a1
  · have l1 := List.idxOf_lt_length_of_mem (a2 p hp)
    have l2 := List.idxOf_lt_length_of_mem (a2 q hq)
    have e1 := List.getElem_idxOf l1
    have e2 := List.getElem_idxOf l2
    have he : A.idxOf (bxcode p) = A.idxOf (bxcode q) := he
    have e3 : A[A.idxOf (bxcode p)] = A[A.idxOf (bxcode q)] := by
      congr 1
    exact box_inj hp hq (by rw [← e1, ← e2, e3])
theorem gl_er {W : Nat} {w : Nat → Nat} {A : List Nat} (hl : A.length ≤ 72) (h0 : 0 ∈ A) (h : ∀ p, EP W w p → bxcode p ∈ A) : GL W w := by
  refine ⟨A.erase 0, ?_, fun p hp => ?_⟩
  · rw [List.length_erase_of_mem h0]; omega
  · refine (List.mem_erase_of_ne ?_).mpr (h p hp)
    intro hz
    obtain ⟨k, hk, hpk⟩ := hp.2.2.1
    obtain ⟨d0, d1, d2, d3⟩ := code_dig hp.2.2.2
    rw [hz] at d0 d1 d2 d3
    apply hpk
    revert k hk
    intro k hk _
    have : ∀ k, k < 4 → p k = 0 := by
      apply all4
      · exact cls_z.mp d0.symm
      · exact cls_z.mp d1.symm
      · exact cls_z.mp d2.symm
      · exact cls_z.mp d3.symm
    exact this k hk
def m4 (a b c d : Nat) (k : Nat) : Nat := if k = 0 then a else if k = 1 then b else if k = 2 then c else d
section GOOD
variable {W a b c d : Nat}
theorem z_code : bxcode (fun _ => 0) = 0 := rfl
theorem z_ps (w : Nat → Nat) : ps w (fun _ => 0) 4 = 0 := by simp [ps]
theorem gl_plain {a' b' c' d' : Nat} (hW : W ≤ 60) (h : Nat.ble (pcn a' b' c' d') 72 = true) (ha : a' ≤ a) (hb : b' ≤ b) (hc : c' ≤ c) (hd : d' ≤ d) : GL W (m4 a b c d) := by
  have hw : ∀ j, j < 4 → m4 a' b' c' d' j ≤ m4 a b c d j := all4 ha hb hc hd
  have h := Nat.le_of_ble_eq_true h
  unfold pcn at h
  rw [← bx_len pcd Nat.add 29 _ _ 0 0] at h
  refine gl_er h ?_ (fun p hp => bx_plain (w' := m4 a' b' c' d') hW hp.2.2.2 hp.2.1 hw)
  exact z_code ▸ bx_plain (W := W) (w := m4 a b c d) (w' := m4 a' b' c' d') (p := fun _ => 0) hW (fun _ _ => Nat.zero_le _) (by rw [z_ps]; omega) hw
theorem gl_mask (hW : W ≤ 60) (h : Nat.ble (mcn a b c d) 72 = true) : GL W (m4 a b c d) := by
  have h := Nat.le_of_ble_eq_true h
  unfold mcn at h
  rw [← bx_len mcd mnx 29 _ _ 0 0] at h
  refine gl_er h ?_ (fun p hp => bx_mask (w := m4 a b c d) hW hp.2.2.2 hp.1 hp.2.1)
  refine z_code ▸ bx_mask (W := W) (w := m4 a b c d) (p := fun _ => 0) hW (fun _ _ => Nat.zero_le _) ?_ (by rw [z_ps]; omega)
  intro u v _ _ huv k hk
  have h9 : u k + v k = 2 * 0 := huv k hk
  show u k = 0
  omega
theorem exA_at {f : Nat} : exA a b c d f = true → ∀ W, W < f → Nat.ble (List.length (List.filter (ful W a b c d) (bxG mcd mnx 29 [a, b, c, d] 1 0 0))) 71 = true := by
  induction f with
  | zero => intro _ W h; exact absurd h (Nat.not_lt_zero W)
  | succ f ih =>
    intro h W hW
    have h : (and (Nat.ble (List.length (List.filter (ful f a b c d) (bxG mcd mnx 29 [a, b, c, d] 1 0 0))) 71) (exA a b c d f)) = true := h
    rw [Bool.and_eq_true] at h
    by_cases e : W = f
    · rw [e]; exact h.1
    · exact ih h.2 W (by omega)
theorem gl_ful (hW : W ≤ 60) (h : exA a b c d 61 = true) : GL W (m4 a b c d) :=
  ⟨_, Nat.le_of_ble_eq_true (exA_at h W (by omega)), fun p hp => List.mem_filter.mpr ⟨bx_mask (w := m4 a b c d) hW hp.2.2.2 hp.1 hp.2.1, ful_ok hp⟩⟩
theorem gl_exq (hW : W ≤ 60) (h : exq a b c d = true) (hb : b ≤ 99) (hc : c ≤ 99) (hd : d ≤ 99) : GL W (m4 a b c d) := by
  unfold exq at h
  have h := List.mem_of_elem_eq_true h
  have g : ∀ {a' b' c' d' : Nat}, a * 1000000 + b * 10000 + c * 100 + d = a' * 1000000 + b' * 10000 + c' * 100 + d' → b' ≤ 99 → c' ≤ 99 → d' ≤ 99 → exA a' b' c' d' 61 = true → GL W (m4 a b c d) := by
    intro a' b' c' d' e h1 h2 h3 h4
    obtain rfl : a = a' := by omega
    obtain rfl : b = b' := by omega
    obtain rfl : c = c' := by omega
    obtain rfl : d = d' := by omega
    exact gl_ful hW h4
  rcases List.mem_cons.mp h with e | h
  · exact g (a' := 2) (b' := 3) (c' := 7) (d' := 8) e (by decide) (by decide) (by decide) exA_1
  rcases List.mem_cons.mp h with e | h
  · exact g (a' := 2) (b' := 3) (c' := 7) (d' := 11) e (by decide) (by decide) (by decide) exA_2
  rcases List.mem_cons.mp h with e | h
  · exact g (a' := 3) (b' := 4) (c' := 5) (d' := 6) e (by decide) (by decide) (by decide) exA_3
  rcases List.mem_cons.mp h with e | h
  · exact g (a' := 3) (b' := 4) (c' := 5) (d' := 7) e (by decide) (by decide) (by decide) exA_4
  rcases List.mem_cons.mp h with e | h
  · exact g (a' := 3) (b' := 4) (c' := 5) (d' := 11) e (by decide) (by decide) (by decide) exA_5
  rcases List.mem_cons.mp h with e | h
  · exact g (a' := 3) (b' := 4) (c' := 5) (d' := 13) e (by decide) (by decide) (by decide) exA_6
  rcases List.mem_cons.mp h with e | h
  · exact g (a' := 3) (b' := 4) (c' := 5) (d' := 14) e (by decide) (by decide) (by decide) exA_7
  rcases List.mem_cons.mp h with e | h
  · exact g (a' := 3) (b' := 5) (c' := 6) (d' := 7) e (by decide) (by decide) (by decide) exA_8
  rcases List.mem_cons.mp h with e | h
  · exact g (a' := 3) (b' := 5) (c' := 7) (d' := 11) e (by decide) (by decide) (by decide) exA_9
  rcases List.mem_cons.mp h with e | h
  · exact g (a' := 4) (b' := 5) (c' := 6) (d' := 7) e (by decide) (by decide) (by decide) exA_10
  rcases List.mem_cons.mp h with e | h
  · exact g (a' := 4) (b' := 5) (c' := 6) (d' := 13) e (by decide) (by decide) (by decide) exA_11
  · exact absurd h (List.not_mem_nil)
end GOOD
section ALLW
variable {W : Nat}
theorem l3_ok (hW : W ≤ 60) {a b c : Nat} (hb : b ≤ 61) (hc : c ≤ 61) : ∀ f d, L3 a b c f d = true → d + f ≤ 62 → ∀ v, d ≤ v → v < d + f → GL W (m4 a b c v) := by
  intro f
  induction f with
  | zero => intro d _ _ v h1 h2; omega
  | succ f ih =>
    intro d h hf v h1 h2
    have h : (and (or (Nat.ble (mcn a b c d) 72) (exq a b c d)) (L3 a b c f (d + 1))) = true := h
    rw [Bool.and_eq_true, Bool.or_eq_true] at h
    by_cases e : v = d
    · subst e
      rcases h.1 with g | g
      · exact gl_mask hW g
      · exact gl_exq hW g (by omega) (by omega) (by omega)
    · exact ih (d + 1) h.2 (by omega) v (by omega) (by omega)
theorem l2_ok (hW : W ≤ 60) {a b : Nat} (hb : b ≤ 61) : ∀ f c, L2 a b f c = true → c + f = 62 → ∀ u v, c ≤ u → u ≤ v → v ≤ 61 → GL W (m4 a b u v) := by
  intro f
  induction f with
  | zero => intro c _ _ u v h1 h2 h3; omega
  | succ f ih =>
    intro c h hf u v h1 h2 h3
    have h : (or (Nat.ble (pcn a b c c) 72) (and (L3 a b c (62 - c) c) (L2 a b f (c + 1)))) = true := h
    rw [Bool.or_eq_true, Bool.and_eq_true] at h
    rcases h with g | ⟨g1, g2⟩
    · exact gl_plain hW g (Nat.le_refl _) (Nat.le_refl _) h1 (by omega)
    · by_cases e : u = c
      · subst e
        exact l3_ok hW hb (by omega) _ _ g1 (by omega) v h2 (by omega)
      · exact ih (c + 1) g2 (by omega) u v (by omega) h2 h3
theorem l1_ok (hW : W ≤ 60) {a : Nat} : ∀ f b, L1 a f b = true → b + f = 62 → ∀ t u v, b ≤ t → t ≤ u → u ≤ v → v ≤ 61 → GL W (m4 a t u v) := by
  intro f
  induction f with
  | zero => intro b _ _ t u v h1 h2 h3 h4; omega
  | succ f ih =>
    intro b h hf t u v h1 h2 h3 h4
    have h : (or (Nat.ble (pcn a b b b) 72) (and (L2 a b (62 - b) b) (L1 a f (b + 1)))) = true := h
    rw [Bool.or_eq_true, Bool.and_eq_true] at h
    rcases h with g | ⟨g1, g2⟩
    · exact gl_plain hW g (Nat.le_refl _) h1 (by omega) (by omega)
    · by_cases e : t = b
      · subst e
        exact l2_ok hW (by omega) _ _ g1 (by omega) u v h2 h3 h4
      · exact ih (b + 1) g2 (by omega) t u v (by omega) h2 h3 h4
theorem gl_sorted (hW : W ≤ 60) {a b c d : Nat} (h0 : 1 ≤ a) (h1 : a ≤ b) (h2 : b ≤ c) (h3 : c ≤ d) (h4 : d ≤ 61) : GL W (m4 a b c d) := by
  by_cases e : 8 ≤ a
  · exact gl_plain hW l1_8 e (by omega) (by omega) (by omega)
  · match a, h0, e, h1 with
    | 1, _, _, h1 => exact l1_ok hW _ _ l1_1 rfl b c d h1 h2 h3 h4
    | 2, _, _, h1 => exact l1_ok hW _ _ l1_2 rfl b c d h1 h2 h3 h4
    | 3, _, _, h1 => exact l1_ok hW _ _ l1_3 rfl b c d h1 h2 h3 h4
    | 4, _, _, h1 => exact l1_ok hW _ _ l1_4 rfl b c d h1 h2 h3 h4
    | 5, _, _, h1 => exact l1_ok hW _ _ l1_5 rfl b c d h1 h2 h3 h4
    | 6, _, _, h1 => exact l1_ok hW _ _ l1_6 rfl b c d h1 h2 h3 h4
    | 7, _, _, h1 => exact l1_ok hW _ _ l1_7 rfl b c d h1 h2 h3 h4
    | a + 8, _, e, _ => omega
/-! the kinds may stand in any order -/
theorem gf_perm {w : Nat → Nat} (τ : Nat → Nat) (hτ : ∀ k, k < 4 → τ k < 4 ∧ τ (τ k) = k) (hps : ∀ w p : Nat → Nat, ps (fun k => w (τ k)) (fun k => p (τ k)) 4 = ps w p 4) (h : GF W (fun k => w (τ k))) : GF W w := by
  obtain ⟨f, f1, f2⟩ := h
  have hE : ∀ p, EP W w p → EP W (fun k => w (τ k)) (fun k => p (τ k)) := by
    intro p hp
    refine ⟨fun u v hu hv huv k hk => ?_, by rw [hps]; exact hp.2.1, ?_, fun k hk => hp.2.2.2 _ (hτ k hk).1⟩
    · have t1 : ps w (fun k => u (τ k)) 4 ≤ W := by
        rw [← hps]
        have : ps (fun k => w (τ k)) (fun k => u (τ (τ k))) 4 = ps (fun k => w (τ k)) u 4 := ps_congr 4 (fun j hj => by rw [(hτ j hj).2])
        rw [this]; exact hu
      have t2 : ps w (fun k => v (τ k)) 4 ≤ W := by
        rw [← hps]
        have : ps (fun k => w (τ k)) (fun k => v (τ (τ k))) 4 = ps (fun k => w (τ k)) v 4 := ps_congr 4 (fun j hj => by rw [(hτ j hj).2])
        rw [this]; exact hv
      have : u (τ (τ k)) = p (τ k) := hp.1 (fun k => u (τ k)) (fun k => v (τ k)) t1 t2 (fun j hj => by
        have : u (τ j) + v (τ j) = 2 * p (τ (τ j)) := huv (τ j) (hτ j hj).1
        rw [(hτ j hj).2] at this
        exact this) (τ k) (hτ k hk).1
      rw [(hτ k hk).2] at this
      exact this
    · obtain ⟨k, hk, hpk⟩ := hp.2.2.1
      exact ⟨τ k, (hτ k hk).1, by show p (τ (τ k)) ≠ 0; rw [(hτ k hk).2]; exact hpk⟩
  refine ⟨fun p => f (fun k => p (τ k)), fun p hp => f1 _ (hE p hp), fun p q hp hq he k hk => ?_⟩
  have : p (τ (τ k)) = q (τ (τ k)) := f2 _ _ (hE p hp) (hE q hq) he (τ k) (hτ k hk).1
  rw [(hτ k hk).2] at this
  exact this
theorem gf_ext {w w' : Nat → Nat} (hw : ∀ k, k < 4 → w k = w' k) (h : GF W w) : GF W w' := by
  have hps : ∀ p, ps w p 4 = ps w' p 4 := fun p => by
    simp only [ps]
    rw [hw 0 (by decide), hw 1 (by decide), hw 2 (by decide), hw 3 (by decide)]
  have hE : ∀ p, EP W w' p → EP W w p := fun p hp => ⟨fun u v hu hv => hp.1 u v (by rw [← hps]; exact hu) (by rw [← hps]; exact hv), by rw [hps]; exact hp.2.1, hp.2.2⟩
  obtain ⟨f, f1, f2⟩ := h
  exact ⟨f, fun p hp => f1 p (hE p hp), fun p q hp hq => f2 p q (hE p hp) (hE q hq)⟩
def t01 (k : Nat) : Nat := if k = 0 then 1 else if k = 1 then 0 else k
def t12 (k : Nat) : Nat := if k = 1 then 2 else if k = 2 then 1 else k
def t23 (k : Nat) : Nat := if k = 2 then 3 else if k = 3 then 2 else k
theorem s01 {a b c d : Nat} (h : GF W (m4 a b c d)) : GF W (m4 b a c d) := by
  refine gf_perm t01 (all4 (by decide) (by decide) (by decide) (by decide)) (fun w p => ?_) (gf_ext (w := m4 a b c d) (w' := fun k => m4 b a c d (t01 k)) (all4 rfl rfl rfl rfl) h)
  simp [ps, t01]
  omega
theorem s12 {a b c d : Nat} (h : GF W (m4 a b c d)) : GF W (m4 a c b d) := by
  refine gf_perm t12 (all4 (by decide) (by decide) (by decide) (by decide)) (fun w p => ?_) (gf_ext (w := m4 a b c d) (w' := fun k => m4 a c b d (t12 k)) (all4 rfl rfl rfl rfl) h)
  simp [ps, t12]
  omega
theorem s23 {a b c d : Nat} (h : GF W (m4 a b c d)) : GF W (m4 a b d c) := by
  refine gf_perm t23 (all4 (by decide) (by decide) (by decide) (by decide)) (fun w p => ?_) (gf_ext (w := m4 a b c d) (w' := fun k => m4 a b d c (t23 k)) (all4 rfl rfl rfl rfl) h)
  simp [ps, t23]
  omega
theorem gf_all (hW : W ≤ 60) {a b c d : Nat} (ha : 1 ≤ a ∧ a ≤ 61) (hb : 1 ≤ b ∧ b ≤ 61) (hc : 1 ≤ c ∧ c ≤ 61) (hd : 1 ≤ d ∧ d ≤ 61) : GF W (m4 a b c d) := by
  have S : ∀ {a b c d : Nat}, 1 ≤ a → a ≤ b → b ≤ c → c ≤ d → d ≤ 61 → GF W (m4 a b c d) := fun h0 h1 h2 h3 h4 => gf_of (gl_sorted hW h0 h1 h2 h3 h4)
  have S1 : ∀ {a b c d : Nat}, 1 ≤ a → a ≤ b → b ≤ c → c ≤ 61 → 1 ≤ d ∧ d ≤ 61 → GF W (m4 a b c d) := by
    intro a b c d h0 h1 h2 h3 h4
    by_cases e1 : c ≤ d
    · exact S h0 h1 h2 e1 h4.2
    by_cases e2 : b ≤ d
    · exact s23 (S h0 h1 e2 (by omega) (by omega))
    by_cases e3 : a ≤ d
    · exact s23 (s12 (S h0 e3 (by omega) (by omega) (by omega)))
    · exact s23 (s12 (s01 (S h4.1 (by omega) (by omega) (by omega) (by omega))))
  have S2 : ∀ {a b c d : Nat}, 1 ≤ a → a ≤ b → b ≤ 61 → 1 ≤ c ∧ c ≤ 61 → 1 ≤ d ∧ d ≤ 61 → GF W (m4 a b c d) := by
    intro a b c d h0 h1 h2 h3 h4
    by_cases e1 : b ≤ c
    · exact S1 h0 h1 e1 h3.2 h4
    by_cases e2 : a ≤ c
    · exact s12 (S1 h0 e2 (by omega) (by omega) h4)
    · exact s12 (s01 (S1 h3.1 (by omega) (by omega) (by omega) h4))
  by_cases e : a ≤ b
  · exact S2 ha.1 e hb.2 hc hd
  · exact s01 (S2 hb.1 (by omega) ha.2 hc hd)
end ALLW
