/-! the reference's rows: what the search over them says of the floor -/
def RI (W n : Nat) (w : Nat → Nat) (rc : Nat) (A : Nat → Nat → Int) (pt : Nat → Nat → Nat) : Prop :=
  8 ≤ rc ∧ (∀ k, k < 4 → ∀ j, j < 5 → A k j = if j = k then -1 else 0) ∧ (∀ k, k < 4 → ∀ j, j < 5 → A (4 + k) j = if j = k then ((dg W n w k : Nat) : Int) else if j = 4 then 1 else 0) ∧ (∀ r, 8 ≤ r → r < rc → EXp W n w (pt r) ∧ (∀ j, j < 4 → A r j = ((pt r j : Nat) : Int)) ∧ A r 4 = 1) ∧ ∀ r s, 8 ≤ r → r < s → s < rc → ∃ k, k < n ∧ pt r k ≠ pt s k
theorem vl_dot {y : Nat → Int} {p : Nat → Nat} : vl y p 4 = dot4 (fun k => (p k : Int)) y := by
  show 0 + (p 0 : Int) * y 0 + (p 1 : Int) * y 1 + (p 2 : Int) * y 2 + (p 3 : Int) * y 3 = (p 0 : Int) * y 0 + (p 1 : Int) * y 1 + (p 2 : Int) * y 2 + (p 3 : Int) * y 3
  omega
section POLY
variable {W n : Nat} {w q : Nat → Nat} {rc : Nat} {A : Nat → Nat → Int} {pt : Nat → Nat → Nat}
theorem dg_pos (hw : ∀ k, k < n → 1 ≤ w k ∧ w k ≤ W) (k : Nat) : 0 < dg W n w k := by
  unfold dg
  split
  · rename_i h
    exact Nat.div_pos (hw k h).2 (hw k h).1
  · decide
theorem ri_rc (hn : n ≤ 4) (hW2 : W ≤ 60) (hw : ∀ k, k < n → 1 ≤ w k ∧ w k ≤ W) (h : RI W n w rc A pt) : rc ≤ 79 := by
  obtain ⟨fp, f1, f2⟩ := fp_ex hn hW2 (fun k hk => ⟨(hw k hk).1, Nat.le_trans (hw k hk).2 hW2⟩)
  obtain ⟨h8, _, _, h1, h2⟩ := h
  have := php 71 (rc - 8) (fun t => fp (pt (8 + t))) (fun t ht => f1 _ (h1 (8 + t) (by omega) (by omega)).1) (fun s t hst ht he => by
    obtain ⟨k, k1, k2⟩ := h2 (8 + s) (8 + t) (by omega) (by omega) (by omega)
    exact k2 (f2 _ _ (h1 (8 + s) (by omega) (by omega)).1 (h1 (8 + t) (by omega) (by omega)).1 he k k1))
  omega
theorem ri_bd (hw : ∀ k, k < n → 1 ≤ w k ∧ w k ≤ W) (h : RI W n w rc A pt) : ∀ z : Nat → Int, (∃ k, k < 4 ∧ z k ≠ 0) → ∃ r, r < rc ∧ 0 < dot4 (A r) z := by
  rintro z ⟨k, hk, hz⟩
  obtain ⟨h8, ha, hb, _, _⟩ := h
  have e1 : dot4 (A k) z = -z k := by
    simp only [dot4]
    rw [ha k hk 0 (by decide), ha k hk 1 (by decide), ha k hk 2 (by decide), ha k hk 3 (by decide)]
    match k, hk with
    | 0, _ => simp
    | 1, _ => simp
    | 2, _ => simp
    | 3, _ => simp
  have e2 : dot4 (A (4 + k)) z = ((dg W n w k : Nat) : Int) * z k := by
    simp only [dot4]
    rw [hb k hk 0 (by decide), hb k hk 1 (by decide), hb k hk 2 (by decide), hb k hk 3 (by decide)]
    match k, hk with
    | 0, _ => simp
    | 1, _ => simp
    | 2, _ => simp
    | 3, _ => simp
  by_cases c : z k < 0
  · exact ⟨k, by omega, by rw [e1]; omega⟩
  · refine ⟨4 + k, by omega, ?_⟩
    rw [e2]
    have := dg_pos hw k
    exact Int.mul_pos (by omega) (by omega)
/-- every solution of the rows is worth no more than the best corner -/
theorem top_bound {dq bc y0 : Nat → Int} {bu bm Y0 : Int} (hB : ∀ z : Nat → Int, (∃ k, k < 4 ∧ z k ≠ 0) → ∃ r, r < rc ∧ 0 < dot4 (A r) z) (hS : Bst rc A dq (fun _ _ _ _ => True) bc bu bm) (hY : 0 < Y0) (hF : Fe rc A y0 Y0) : bu ≠ 0 ∧ dot4 dq y0 * bu ≤ bm * Y0 := by
  obtain ⟨i, j, k, l, h1, h2, h3, h4, σ, s1, s2, s3, s4⟩ := vertex (d := dq) hY hB hF
  obtain ⟨g1, g2⟩ := hS.2.2.2 i j k l h1 h2 h3 h4 trivial σ ⟨s1, s2, s3⟩
  refine ⟨g1, ?_⟩
  have hbu : 0 ≤ bu := hS.1
  generalize σ * Det4 (r4 A i j k l) = X1 at *
  generalize dot4 dq (fun c => σ * Det4 (cR (r4 A i j k l) c)) = X2 at *
  apply Int.le_of_mul_le_mul_right (a := X1) ?_ s2
  have t1 : dot4 dq y0 * X1 * bu ≤ X2 * Y0 * bu := Int.mul_le_mul_of_nonneg_right s4 hbu
  have t2 : X2 * bu * Y0 ≤ bm * X1 * Y0 := Int.mul_le_mul_of_nonneg_right g2 (Int.le_of_lt hY)
  have e1 : dot4 dq y0 * bu * X1 = dot4 dq y0 * X1 * bu := by grind
  have e2 : X2 * Y0 * bu = X2 * bu * Y0 := by grind
  have e3 : bm * Y0 * X1 = bm * X1 * Y0 := by grind
  omega
theorem ri_zero (h : RI W n w rc A pt) : Fe rc A (fun _ => 0) 1 := by
  obtain ⟨h8, ha, hb, hc, _⟩ := h
  intro r hr
  have e : dot4 (A r) (fun _ => 0) = 0 := by simp [dot4]
  rw [e, Int.mul_one]
  by_cases c1 : r < 4
  · rw [ha r c1 4 (by decide), if_neg (by omega)]; exact Int.le_refl 0
  · by_cases c2 : r < 8
    · obtain ⟨k, rfl⟩ : ∃ k, r = 4 + k := ⟨r - 4, by omega⟩
      rw [hb k (by omega) 4 (by decide), if_neg (by omega), if_pos rfl]
      decide
    · rw [(hc r (by omega) hr).2.2]; decide
theorem ri_nonneg (h : RI W n w rc A pt) {y : Nat → Int} {Y : Int} (hF : Fe rc A y Y) : ∀ k, k < 4 → 0 ≤ y k := by
  obtain ⟨h8, ha, _, _, _⟩ := h
  intro k hk
  have h1 := hF k (by omega)
  rw [ha k hk 4 (by decide), if_neg (by omega), Int.zero_mul] at h1
  have e1 : dot4 (A k) y = -y k := by
    simp only [dot4]
    rw [ha k hk 0 (by decide), ha k hk 1 (by decide), ha k hk 2 (by decide), ha k hk 3 (by decide)]
    match k, hk with
    | 0, _ => simp
    | 1, _ => simp
    | 2, _ => simp
    | 3, _ => simp
  rw [e1] at h1
  omega
/-- a solution for all patterns, made positive, solves the rows -/
theorem ri_feas (hn : n ≤ 4) (hw : ∀ k, k < n → 1 ≤ w k ∧ w k ≤ W) (h : RI W n w rc A pt) {y : Nat → Int} {Y : Int} (hY : 0 < Y) (hy : ∀ p : Nat → Nat, ps w p n ≤ W → vl y p n ≤ Y) : Fe rc A (fun k => if k < n ∧ 0 < y k then y k else 0) Y := by
  obtain ⟨h8, ha, hb, hc, _⟩ := h
  have hyp : ∀ p : Nat → Nat, ps w p n ≤ W → vl (fun k => if k < n ∧ 0 < y k then y k else 0) p n ≤ Y := by
    intro p hp
    have h1 : ps w (fun k => if 0 < y k then p k else 0) n ≤ W := Nat.le_trans (ps_mono n (fun j _ => by show (if 0 < y j then p j else 0) ≤ p j; split <;> omega)) hp
    have h2 := hy _ h1
    have key : ∀ m, m ≤ n → vl (fun k => if k < n ∧ 0 < y k then y k else 0) p m = vl y (fun k => if 0 < y k then p k else 0) m := by
      intro m
      induction m with
      | zero => intro _; rfl
      | succ m ih =>
        intro hm
        show vl _ p m + (p m : Int) * (if m < n ∧ 0 < y m then y m else 0) = vl y _ m + (((if 0 < y m then p m else 0) : Nat) : Int) * y m
        rw [ih (by omega)]
        by_cases c : 0 < y m
        · rw [if_pos ⟨by omega, c⟩, if_pos c]
        · rw [if_neg (fun z => c z.2), if_neg c]
          simp
    rw [key n (Nat.le_refl n)]
    exact h2
  intro r hr
  by_cases c1 : r < 4
  · rw [ha r c1 4 (by decide), if_neg (by omega), Int.zero_mul]
    have e1 : dot4 (A r) (fun k => if k < n ∧ 0 < y k then y k else 0) = -(if r < n ∧ 0 < y r then y r else 0) := by
      simp only [dot4]
      rw [ha r c1 0 (by decide), ha r c1 1 (by decide), ha r c1 2 (by decide), ha r c1 3 (by decide)]
      match r, c1 with
      | 0, _ => simp
      | 1, _ => simp
      | 2, _ => simp
      | 3, _ => simp
    rw [e1]
    split <;> omega
  · by_cases c2 : r < 8
    · obtain ⟨k, rfl⟩ : ∃ k, r = 4 + k := ⟨r - 4, by omega⟩
      have hk : k < 4 := by omega
      rw [hb k hk 4 (by decide), if_neg (by omega), if_pos rfl, Int.one_mul]
      have e2 : dot4 (A (4 + k)) (fun k => if k < n ∧ 0 < y k then y k else 0) = ((dg W n w k : Nat) : Int) * (if k < n ∧ 0 < y k then y k else 0) := by
        simp only [dot4]
        rw [hb k hk 0 (by decide), hb k hk 1 (by decide), hb k hk 2 (by decide), hb k hk 3 (by decide)]
        match k, hk with
        | 0, _ => simp
        | 1, _ => simp
        | 2, _ => simp
        | 3, _ => simp
      rw [e2]
      by_cases c : k < n ∧ 0 < y k
      · have h1 := hyp (pt0 W w k) (by
          have key : ∀ m, m ≤ n → ps w (pt0 W w k) m = if k < m then W / w k * w k else 0 := by
            intro m
            induction m with
            | zero => intro _; rw [if_neg (Nat.not_lt_zero k)]; rfl
            | succ m ih =>
              intro hm
              show ps w _ m + pt0 W w k m * w m = _
              rw [ih (by omega)]
              unfold pt0
              by_cases e : m = k
              · rw [e, if_neg (Nat.lt_irrefl k), if_pos rfl, if_pos (by omega), Nat.zero_add]
              · rw [if_neg e, Nat.zero_mul]
                by_cases h : k < m
                · rw [if_pos h, if_pos (by omega), Nat.add_zero]
                · rw [if_neg h, if_neg (by omega)]
          rw [key n (Nat.le_refl n), if_pos c.1]
          exact Nat.div_mul_le_self _ _)
        have key : ∀ m, m ≤ n → vl (fun k => if k < n ∧ 0 < y k then y k else 0) (pt0 W w k) m = if k < m then ((W / w k : Nat) : Int) * (if k < n ∧ 0 < y k then y k else 0) else 0 := by
          intro m
          induction m with
          | zero => intro _; rw [if_neg (Nat.not_lt_zero k)]; rfl
          | succ m ih =>
            intro hm
            show vl _ _ m + ((pt0 W w k m : Nat) : Int) * (if m < n ∧ 0 < y m then y m else 0) = _
            rw [ih (by omega)]
            unfold pt0
            by_cases e : m = k
            · rw [e, if_neg (Nat.lt_irrefl k), if_pos rfl, if_pos (show k < k + 1 by omega), Int.zero_add]
            · rw [if_neg e]
              by_cases h : k < m
              · rw [if_pos h, if_pos (show k < m + 1 by omega)]; simp
              · rw [if_neg h, if_neg (show ¬ k < m + 1 by omega)]; simp
        rw [key n (Nat.le_refl n), if_pos c.1] at h1
        have hdg : dg W n w k = W / w k := by unfold dg; rw [if_pos c.1]
        rw [hdg]
        exact h1
      · rw [if_neg c, Int.mul_zero]
        omega
    · obtain ⟨g1, g2, g3⟩ := hc r (by omega) hr
      rw [g3, Int.one_mul]
      have h1 := hyp (pt r) g1.2.1.2.2
      have e : dot4 (A r) (fun k => if k < n ∧ 0 < y k then y k else 0) = vl (fun k => if k < n ∧ 0 < y k then y k else 0) (pt r) n := by
        rw [← vl_4 hn g1.2.1.2.1, vl_dot]
        simp only [dot4]
        rw [g2 0 (by decide), g2 1 (by decide), g2 2 (by decide), g2 3 (by decide)]
      rw [e]
      exact h1
/-- the end: the floor -/
theorem ri_fl (hn : n ≤ 4) (hw : ∀ k, k < n → 1 ≤ w k ∧ w k ≤ W) (h : RI W n w rc A pt) {bc : Nat → Int} {bu bm : Int} (hS : Bst rc A (fun k => (qn n q k : Int)) (fun _ _ _ _ => True) bc bu bm) (hfe : ∀ p : Nat → Nat, ps w p n ≤ W → vl bc p n ≤ bu) {T B : Nat} (hT : bm = (T : Int)) (hBu : bu = (B : Int)) : IsFl W n w (qn n q) ((T / Nat.gcd T B : Nat) : Int) ((B / Nat.gcd T B : Nat) : Int) := by
  have hbd := ri_bd hw h
  have h0 := (top_bound hbd hS (by decide) (ri_zero h)).1
  have hB0 : 0 < B := by have := hS.1; omega
  obtain ⟨g1, g2, g3⟩ := hS.2.2.1 h0
  have hqz : ∀ k, n ≤ k → k < 4 → qn n q k = 0 := fun k a _ => if_neg (by omega)
  have hvq : ∀ y : Nat → Int, vl y (qn n q) n = dot4 (fun k => (qn n q k : Int)) y := fun y => by rw [← vl_4 hn hqz, vl_dot]
  have hg : 0 < Nat.gcd T B := Nat.gcd_pos_of_pos_right _ hB0
  obtain ⟨a, ha⟩ := Nat.gcd_dvd_left T B
  obtain ⟨b, hb⟩ := Nat.gcd_dvd_right T B
  have e1 : T / Nat.gcd T B = a := Nat.div_eq_of_eq_mul_right hg ha
  have e2 : B / Nat.gcd T B = b := Nat.div_eq_of_eq_mul_right hg hb
  have hco : Nat.gcd a b = 1 := by
    rw [← e1, ← e2]
    exact Nat.gcd_div_gcd_div_gcd_of_pos_right hB0
  rw [e1, e2]
  generalize hgg : Nat.gcd T B = g at *
  have hb0 : 0 < b := Nat.pos_of_ne_zero (fun z => by rw [z, Nat.mul_zero] at hb; omega)
  have ca : (T : Int) = (g : Int) * (a : Int) := by rw [ha]; exact Int.natCast_mul g a
  have cb : (B : Int) = (g : Int) * (b : Int) := by rw [hb]; exact Int.natCast_mul g b
  refine ⟨by omega, hco, ⟨bc, bu, by omega, hfe, ?_⟩, fun y Y hY hy => ?_⟩
  · rw [hvq, ← g2, hT, hBu, ca, cb]
    grind
  · have h1 := (top_bound hbd hS hY (ri_feas hn hw h hY hy)).2
    rw [hT, hBu, ca, cb, ← hvq] at h1
    have h3 : vl y (qn n q) n ≤ vl (fun k => if k < n ∧ 0 < y k then y k else 0) (qn n q) n := by
      have key : ∀ m, m ≤ n → vl y (qn n q) m ≤ vl (fun k => if k < n ∧ 0 < y k then y k else 0) (qn n q) m := by
        intro m
        induction m with
        | zero => intro _; exact Int.le_refl _
        | succ m ih =>
          intro hm
          have i1 := ih (by omega)
          show vl y _ m + (qn n q m : Int) * y m ≤ vl _ _ m + (qn n q m : Int) * (if m < n ∧ 0 < y m then y m else 0)
          have : (qn n q m : Int) * y m ≤ (qn n q m : Int) * (if m < n ∧ 0 < y m then y m else 0) := by
            apply Int.mul_le_mul_of_nonneg_left _ (Int.natCast_nonneg _)
            split
            · exact Int.le_refl _
            · rename_i c
              apply Int.not_lt.mp
              intro z
              exact c ⟨by omega, z⟩
          omega
      exact key n (Nat.le_refl n)
    apply Int.le_of_mul_le_mul_right (a := (g : Int)) ?_ (by omega)
    have h4 := Int.mul_le_mul_of_nonneg_right h3 (show (0 : Int) ≤ (g : Int) * (b : Int) by exact Int.mul_nonneg (by omega) (by omega))
    have t1 : vl y (qn n q) n * (b : Int) * (g : Int) = vl y (qn n q) n * ((g : Int) * (b : Int)) := by grind
    have t2 : (a : Int) * Y * (g : Int) = (g : Int) * (a : Int) * Y := by grind
    rw [t1, t2]
    exact Int.le_trans h4 h1
end POLY
