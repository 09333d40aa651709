/-! no basis comes twice: a code for each set of patterns -/
theorem php : ∀ (N T : Nat) (g : Nat → Nat), (∀ t, t < T → g t < N) → (∀ s t, s < t → t < T → g s ≠ g t) → T ≤ N
  | 0, T, g, h, _ => by
    apply Nat.le_of_not_lt
    intro hT
    exact absurd (h 0 hT) (Nat.not_lt_zero _)
  | N + 1, T, g, h, hne => by
    by_cases e : ∃ t0, t0 < T ∧ g t0 = N
    · obtain ⟨t0, h0, e0⟩ := e
      have ih := php N (T - 1) (fun t => g (if t < t0 then t else t + 1)) (fun t ht => by
        show g (if t < t0 then t else t + 1) < N
        split
        · rename_i c
          have h1 := h t (by omega)
          have h2 := hne t t0 c h0
          omega
        · rename_i c
          have h1 := h (t + 1) (by omega)
          have h2 := hne t0 (t + 1) (by omega) (by omega)
          omega) (fun s t hst ht => by
        show g (if s < t0 then s else s + 1) ≠ g (if t < t0 then t else t + 1)
        by_cases c1 : s < t0
        · rw [if_pos c1]
          by_cases c2 : t < t0
          · rw [if_pos c2]; exact hne s t hst (by omega)
          · rw [if_neg c2]; exact hne s (t + 1) (by omega) (by omega)
        · rw [if_neg c1, if_neg (by omega)]
          exact hne (s + 1) (t + 1) (by omega) (by omega))
      omega
    · have ih := php N T g (fun t ht => by
        have h1 := h t ht
        have h2 : g t ≠ N := fun z => e ⟨t, ht, z⟩
        omega) hne
      omega
def b2 : Nat → Nat
  | 0 => 0
  | k + 1 => b2 k + k
def b3 : Nat → Nat
  | 0 => 0
  | k + 1 => b3 k + b2 k
def b4 : Nat → Nat
  | 0 => 0
  | k + 1 => b4 k + b3 k
theorem b_le (b : Nat → Nat) (hb : ∀ k, b k ≤ b (k + 1)) : ∀ {k m : Nat}, k ≤ m → b k ≤ b m := by
  intro k m h
  induction m with
  | zero => rw [show k = 0 by omega]; exact Nat.le_refl _
  | succ m ih =>
    by_cases e : k = m + 1
    · rw [e]; exact Nat.le_refl _
    · exact Nat.le_trans (ih (by omega)) (hb m)
theorem b2_le {k m : Nat} (h : k ≤ m) : b2 k ≤ b2 m := b_le b2 (fun k => Nat.le_add_right _ _) h
theorem b3_le {k m : Nat} (h : k ≤ m) : b3 k ≤ b3 m := b_le b3 (fun k => Nat.le_add_right _ _) h
theorem b4_le {k m : Nat} (h : k ≤ m) : b4 k ≤ b4 m := b_le b4 (fun k => Nat.le_add_right _ _) h
def c4 (a b c d : Nat) : Nat := a + b2 b + b3 c + b4 d
theorem c2_lt {a b m : Nat} (h1 : a < b) (h2 : b < m) : a + b2 b < b2 m := by
  have h3 : b2 b + b ≤ b2 m := b2_le (k := b + 1) h2
  omega
theorem c3_lt {a b c m : Nat} (h1 : a < b) (h2 : b < c) (h3 : c < m) : a + b2 b + b3 c < b3 m := by
  have h4 := c2_lt h1 h2
  have h5 : b3 c + b2 c ≤ b3 m := b3_le (k := c + 1) h3
  omega
theorem c4_lt {a b c d m : Nat} (h1 : a < b) (h2 : b < c) (h3 : c < d) (h4 : d < m) : c4 a b c d < b4 m := by
  have h5 := c3_lt h1 h2 h3
  have h6 : b4 d + b3 d ≤ b4 m := b4_le (k := d + 1) h4
  unfold c4
  omega
theorem c4_inj {a b c d a' b' c' d' : Nat} (h1 : a < b) (h2 : b < c) (h3 : c < d) (h1' : a' < b') (h2' : b' < c') (h3' : c' < d') (h : c4 a b c d = c4 a' b' c' d') : a = a' ∧ b = b' ∧ c = c' ∧ d = d' := by
  have ed : d = d' := by
    rcases Nat.lt_trichotomy d d' with x | x | x
    · have h4 := c4_lt h1 h2 h3 x
      have : b4 d' ≤ c4 a' b' c' d' := Nat.le_add_left _ _
      omega
    · exact x
    · have h4 := c4_lt h1' h2' h3' x
      have : b4 d ≤ c4 a b c d := Nat.le_add_left _ _
      omega
  subst ed
  unfold c4 at h
  have ec : c = c' := by
    rcases Nat.lt_trichotomy c c' with x | x | x
    · have h4 := c3_lt h1 h2 x
      omega
    · exact x
    · have h4 := c3_lt h1' h2' x
      omega
  subst ec
  have eb : b = b' := by
    rcases Nat.lt_trichotomy b b' with x | x | x
    · have h4 := c2_lt h1 x
      omega
    · exact x
    · have h4 := c2_lt h1' x
      omega
  subst eb
  exact ⟨by omega, rfl, rfl, rfl⟩
/-- four different numbers, sorted -/
def Srt (g : Nat → Nat) (a b c d : Nat) : Prop := a < b ∧ b < c ∧ c < d ∧ ∀ x, (∃ i, i < 4 ∧ g i = x) ↔ (x = a ∨ x = b ∨ x = c ∨ x = d)
theorem srt_ex {g : Nat → Nat} (h : ∀ i j, i < 4 → j < 4 → i ≠ j → g i ≠ g j) : ∃ a b c d, Srt g a b c d := by
  have i2 : ∃ a b, a < b ∧ ∀ x, (x = g 0 ∨ x = g 1) ↔ (x = a ∨ x = b) := by
    have := h 0 1 (by decide) (by decide) (by decide)
    by_cases c : g 0 < g 1
    · exact ⟨g 0, g 1, c, fun x => Iff.rfl⟩
    · exact ⟨g 1, g 0, by omega, fun x => or_comm⟩
  obtain ⟨a, b, hab, e2⟩ := i2
  have i3 : ∃ a b c, a < b ∧ b < c ∧ ∀ x, (x = g 0 ∨ x = g 1 ∨ x = g 2) ↔ (x = a ∨ x = b ∨ x = c) := by
    have n0 := h 0 2 (by decide) (by decide) (by decide)
    have n1 := h 1 2 (by decide) (by decide) (by decide)
    have ha : a ≠ g 2 := by rcases (e2 a).mpr (Or.inl rfl) with z | z <;> omega
    have hb : b ≠ g 2 := by rcases (e2 b).mpr (Or.inr rfl) with z | z <;> omega
    have key : ∀ x, (x = g 0 ∨ x = g 1 ∨ x = g 2) ↔ (x = a ∨ x = b ∨ x = g 2) := fun x => by have := e2 x; grind
    by_cases c1 : g 2 < a
    · exact ⟨g 2, a, b, c1, hab, fun x => (key x).trans (by grind)⟩
    by_cases c2 : g 2 < b
    · exact ⟨a, g 2, b, by omega, c2, fun x => (key x).trans (by grind)⟩
    · exact ⟨a, b, g 2, hab, by omega, key⟩
  obtain ⟨a, b, c, hab, hbc, e3⟩ := i3
  have n0 := h 0 3 (by decide) (by decide) (by decide)
  have n1 := h 1 3 (by decide) (by decide) (by decide)
  have n2 := h 2 3 (by decide) (by decide) (by decide)
  have ha : a ≠ g 3 := by rcases (e3 a).mpr (Or.inl rfl) with z | z | z <;> omega
  have hb : b ≠ g 3 := by rcases (e3 b).mpr (Or.inr (Or.inl rfl)) with z | z | z <;> omega
  have hc : c ≠ g 3 := by rcases (e3 c).mpr (Or.inr (Or.inr rfl)) with z | z | z <;> omega
  have key : ∀ x, (∃ i, i < 4 ∧ g i = x) ↔ (x = a ∨ x = b ∨ x = c ∨ x = g 3) := fun x => by
    have h3 := e3 x
    constructor
    · rintro ⟨i, hi, e⟩
      match i, hi, e with
      | 0, _, e => have := h3.mp (Or.inl e.symm); grind
      | 1, _, e => have := h3.mp (Or.inr (Or.inl e.symm)); grind
      | 2, _, e => have := h3.mp (Or.inr (Or.inr e.symm)); grind
      | 3, _, e => exact Or.inr (Or.inr (Or.inr e.symm))
    · intro hx
      have h4 : x = g 0 ∨ x = g 1 ∨ x = g 2 ∨ x = g 3 := by grind
      rcases h4 with e | e | e | e
      · exact ⟨0, by decide, e.symm⟩
      · exact ⟨1, by decide, e.symm⟩
      · exact ⟨2, by decide, e.symm⟩
      · exact ⟨3, by decide, e.symm⟩
  by_cases c1 : g 3 < a
  · exact ⟨g 3, a, b, c, c1, hab, hbc, fun x => (key x).trans (by grind)⟩
  by_cases c2 : g 3 < b
  · exact ⟨a, g 3, b, c, by omega, c2, hbc, fun x => (key x).trans (by grind)⟩
  by_cases c3 : g 3 < c
  · exact ⟨a, b, g 3, c, hab, by omega, c3, fun x => (key x).trans (by grind)⟩
  · exact ⟨a, b, c, g 3, hab, hbc, by omega, key⟩
def c3o (g : Nat → Nat) : Nat → Nat
  | 0 => 0
  | i + 1 => c3o g i * 71 + g i
theorem c3o_inj {g g' : Nat → Nat} : ∀ n, (∀ i, i < n → g i < 71 ∧ g' i < 71) → c3o g n = c3o g' n → ∀ i, i < n → g i = g' i
  | 0, _, _, i, hi => absurd hi (Nat.not_lt_zero i)
  | n + 1, h, he, i, hi => by
    have h1 := h n (by omega)
    have he : c3o g n * 71 + g n = c3o g' n * 71 + g' n := he
    by_cases e : i = n
    · rw [e]; omega
    · exact c3o_inj n (fun j hj => h j (by omega)) (by omega) i (by omega)
theorem c3o_lt {g : Nat → Nat} : ∀ n, n ≤ 3 → (∀ i, i < n → g i < 71) → c3o g n < 357911
  | 0, _, _ => by show 0 < 357911; decide
  | 1, _, h => by have := h 0 (by decide); show 0 * 71 + g 0 < _; omega
  | 2, _, h => by have := h 0 (by decide); have := h 1 (by decide); show (0 * 71 + g 0) * 71 + g 1 < _; omega
  | 3, _, h => by have := h 0 (by decide); have := h 1 (by decide); have := h 2 (by decide); show ((0 * 71 + g 0) * 71 + g 1) * 71 + g 2 < _; omega
  | n + 4, h, _ => by omega
/-- a number of the set of the first n values -/
def SCode (n : Nat) (g : Nat → Nat) (c : Nat) : Prop := (n < 4 ∧ c = c3o g n) ∨ (n = 4 ∧ ∃ a b e d, Srt g a b e d ∧ c = c4 a b e d)
theorem scode_ex {n : Nat} (hn : n ≤ 4) {g : Nat → Nat} (h : ∀ i, i < n → g i < 71) (hne : ∀ i j, i < n → j < n → i ≠ j → g i ≠ g j) : ∃ c, c < 971635 ∧ SCode n g c := by
  by_cases e : n < 4
  · exact ⟨_, Nat.lt_trans (c3o_lt n (by omega) h) (by decide), Or.inl ⟨e, rfl⟩⟩
  · obtain rfl : n = 4 := by omega
    obtain ⟨a, b, c, d, hs⟩ := srt_ex hne
    have hd : d < 71 := by
      obtain ⟨i, hi, e⟩ := (hs.2.2.2 d).mpr (Or.inr (Or.inr (Or.inr rfl)))
      rw [← e]; exact h i hi
    have h4 : b4 71 = 971635 := by decide +kernel
    exact ⟨_, h4 ▸ c4_lt hs.1 hs.2.1 hs.2.2.1 hd, Or.inr ⟨rfl, a, b, c, d, hs, rfl⟩⟩
theorem scode_inj {n : Nat} {g g' : Nat → Nat} {c : Nat} (h : ∀ i, i < n → g i < 71 ∧ g' i < 71) (h1 : SCode n g c) (h2 : SCode n g' c) : ∀ i, i < n → ∃ j, j < n ∧ g j = g' i := by
  intro i hi
  rcases h1 with ⟨a1, a2⟩ | ⟨a1, a, b, e, d, hs, a2⟩
  · rcases h2 with ⟨b1, b2⟩ | ⟨b1, _⟩
    · exact ⟨i, hi, c3o_inj n h (a2 ▸ b2) i hi⟩
    · omega
  · rcases h2 with ⟨b1, _⟩ | ⟨b1, a', b', e', d', hs', b2⟩
    · omega
    · subst a1
      obtain ⟨r1, r2, r3, r4⟩ := c4_inj hs.1 hs.2.1 hs.2.2.1 hs'.1 hs'.2.1 hs'.2.2.1 (a2 ▸ b2)
      have := (hs'.2.2.2 (g' i)).mp ⟨i, hi, rfl⟩
      rw [← r1, ← r2, ← r3, ← r4] at this
      exact (hs.2.2.2 (g' i)).mpr this
