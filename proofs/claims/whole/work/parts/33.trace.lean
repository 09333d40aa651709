/-! what copyPattern collects: a pattern of greatest worth, and an extreme one -/
def Extp (W n : Nat) (w p : Nat → Nat) : Prop := ∀ u v : Nat → Nat, ps w u n ≤ W → ps w v n ≤ W → (∀ k, k < n → u k + v k = 2 * p k) → ∀ k, k < n → u k = p k
theorem ta_acc {w : Nat → Nat} {KP : Nat → Int32} : ∀ (f r : Nat) (acc : Nat → Nat) (j : Nat), ta w KP f r acc j = acc j + ta w KP f r (fun _ => 0) j
  | 0, _, _, _ => rfl
  | f + 1, r, acc, j => by
    unfold ta
    by_cases h0 : r = 0
    · rw [if_pos h0, if_pos h0]; rfl
    · rw [if_neg h0, if_neg h0]
      by_cases h1 : KP r = -1
      · rw [if_pos h1, if_pos h1]
        exact ta_acc f (r - 1) acc j
      · rw [if_neg h1, if_neg h1, ta_acc f _ (va_up acc _ _) j, ta_acc f _ (va_up (fun _ => 0) _ _) j]
        unfold va_up
        by_cases e : j = (KP r).toNatClampNeg
        · rw [if_pos e, if_pos e, e]
          show acc _ + 1 + _ = acc _ + (0 + 1 + _)
          omega
        · rw [if_neg e, if_neg e]
          show acc _ + _ = acc _ + (0 + _)
          omega
section TRACE
variable {W n : Nat} {w : Nat → Nat} {y K : Nat → Int} {KP : Nat → Int32}
theorem ta_k {f r k : Nat} (hr : r ≠ 0) (hk : KP r = nI k) (hk4 : k < 4) : ta w KP (f + 1) r (fun _ => 0) = va_up (ta w KP f (r - w k) (fun _ => 0)) k (ta w KP f (r - w k) (fun _ => 0) k + 1) := by
  have hnm : ¬ KP r = -1 := fun z => by
    rw [hk] at z
    have h9 := congrArg Int32.toInt z
    rw [nI_toInt (by omega)] at h9
    have h8 : ((-1 : Int32)).toInt = -1 := rfl
    omega
  have hcl : (KP r).toNatClampNeg = k := by rw [hk]; exact nI_clamp (by omega)
  funext j
  have h1 : ta w KP (f + 1) r (fun _ => 0) = ta w KP f (r - w k) (va_up (fun _ => 0) k (0 + 1)) := by
    conv => lhs; unfold ta
    rw [if_neg hr, if_neg hnm, hcl]
  rw [h1, ta_acc]
  unfold va_up
  by_cases e : j = k
  · rw [if_pos e, if_pos e, e]
    omega
  · rw [if_neg e, if_neg e]
    show 0 + _ = _
    omega
theorem ta_m {f r : Nat} (hr : r ≠ 0) (hk : KP r = -1) : ta w KP (f + 1) r (fun _ => 0) = ta w KP f (r - 1) (fun _ => 0) := by
  conv => lhs; unfold ta
  rw [if_neg hr, if_pos hk]
/-- the piece is the first kind that reaches the greatest worth -/
theorem fk_fst {r : Nat} : ∀ m k, k < m → (fk w y K r m).2 = nI k → m ≤ 4 → (fk w y K r m) = (K (r - w k) + y k, nI k) → ∀ j, j < k → w j ≤ r → K (r - w j) + y j < (fk w y K r m).1
  | 0, k, h, _, _, _ => absurd h (Nat.not_lt_zero k)
  | m + 1, k, h, h2, hm, h3 => by
    intro j hj hw
    have hst : fk w y K r (m + 1) = if w m ≤ r ∧ (fk w y K r m).1 < K (r - w m) + y m then (K (r - w m) + y m, nI m) else fk w y K r m := rfl
    by_cases c : w m ≤ r ∧ (fk w y K r m).1 < K (r - w m) + y m
    · rw [if_pos c] at hst
      have hkm : k = m := by
        rw [hst] at h2
        exact ((nI_eq (by omega) (by omega)).mp h2).symm
      subst hkm
      rw [hst]
      exact Int.lt_of_le_of_lt (fk_up (w := w) (wo := y) (K := K) (r := r) k j hj hw) c.2
    · rw [if_neg c] at hst
      rw [hst] at h2 h3 ⊢
      by_cases e : k = m
      · subst e
        -- a piece below m would stand there
        exfalso
        rcases fk_cs (w := w) (wo := y) (K := K) (r := r) k with z | ⟨i, a, b, z⟩
        · rw [z] at h2
          have h9 := congrArg Int32.toInt h2
          rw [nI_toInt (by omega)] at h9
          have h8 : ((-1 : Int32)).toInt = -1 := rfl
          have h7 : ((K (r - 1), (-1 : Int32)).2).toInt = -1 := rfl
          omega
        · rw [z] at h2
          have := (nI_eq (a := i) (b := k) (by omega) (by omega)).mp h2
          omega
      · exact fk_fst m k (by omega) h2 (by omega) h3 j hj hw
def tight (K : Nat → Int) (r : Nat) : Prop := r = 0 ∨ K (r - 1) < K r
theorem K_mono (hk : KOk W n w y K KP) : ∀ r, 1 ≤ r → r ≤ W → K (r - 1) ≤ K r := by
  intro r h1 h2
  have h := hk.2 r h1 h2
  have key : ∀ m, K (r - 1) ≤ (fk w y K r m).1 := by
    intro m
    induction m with
    | zero => exact Int.le_refl _
    | succ m ih =>
      unfold fk
      split
      · rename_i z; exact Int.le_of_lt (Int.lt_of_le_of_lt ih z.2)
      · exact ih
  have := key n
  rw [← h] at this
  exact this
theorem tr_val (hn : n ≤ 4) (hk : KOk W n w y K KP) (hw : ∀ k, k < n → 1 ≤ w k) : ∀ (f r : Nat), r ≤ f → r ≤ W → (∀ k, n ≤ k → ta w KP f r (fun _ => 0) k = 0) ∧ ps w (ta w KP f r (fun _ => 0)) n ≤ r ∧ vl y (ta w KP f r (fun _ => 0)) n = K r := by
  have hps0 : ∀ n, ps w (fun _ => 0) n = 0 := fun n => by
    induction n with
    | zero => rfl
    | succ n ih => show ps w (fun _ => 0) n + 0 * w n = 0; rw [ih, Nat.zero_mul]
  intro f
  induction f with
  | zero =>
    intro r hr _
    obtain rfl : r = 0 := by omega
    exact ⟨fun _ _ => rfl, by show ps w (fun _ => 0) n ≤ 0; rw [hps0]; exact Nat.le_refl 0, by show vl y (fun _ => 0) n = K 0; rw [vl_zero n (fun _ _ => rfl), hk.1]⟩
  | succ f ih =>
    intro r hr hrW
    by_cases h0 : r = 0
    · subst h0
      rw [ta_0]
      exact ⟨fun _ _ => rfl, by rw [hps0]; exact Nat.le_refl 0, by rw [vl_zero n (fun _ _ => rfl), hk.1]⟩
    · have h := hk.2 r (by omega) hrW
      rcases fk_cs (w := w) (wo := y) (K := K) (r := r) n with z | ⟨k, a, b, z⟩
      · rw [z] at h
        have e1 : K r = K (r - 1) := congrArg Prod.fst h
        have e2 : KP r = -1 := congrArg Prod.snd h
        rw [ta_m h0 e2]
        obtain ⟨i1, i2, i3⟩ := ih (r - 1) (by omega) (by omega)
        exact ⟨i1, by omega, by rw [i3, e1]⟩
      · rw [z] at h
        have e1 : K r = K (r - w k) + y k := congrArg Prod.fst h
        have e2 : KP r = nI k := congrArg Prod.snd h
        have hw1 := hw k a
        rw [ta_k h0 e2 (by omega)]
        obtain ⟨i1, i2, i3⟩ := ih (r - w k) (by omega) (by omega)
        refine ⟨fun j hj => ?_, ?_, ?_⟩
        · unfold va_up
          rw [if_neg (by omega)]
          exact i1 j hj
        · rw [ps_inc n a]; omega
        · rw [vl_inc n a, i3, e1]
/-- of all patterns of that worth it is the first in ORDER -/
theorem tr_lex (hn : n ≤ 4) (hk : KOk W n w y K KP) (hw : ∀ k, k < n → 1 ≤ w k) (h0K : ∀ r, r ≤ W → 0 ≤ K r) : ∀ (r f : Nat), r ≤ f → r ≤ W → tight K r → ∀ u : Nat → Nat, ps w u n ≤ r → vl y u n = K r → LtX u (ta w KP f r (fun _ => 0)) n ∨ ∀ j, j < n → u j = ta w KP f r (fun _ => 0) j := by
  intro r
  induction r using Nat.strongRecOn with
  | ind r ih =>
    intro f hf hrW ht u hu hv
    have hmax := fun (r : Nat) (p : Nat → Nat) (a : r ≤ W) (b : ps w p n ≤ r) => K_max hk hw h0K (sn p n) r p rfl a b
    by_cases h0 : r = 0
    · subst h0
      right
      intro j hj
      rw [ta_0]
      have key : ∀ m, m ≤ n → ps w u m = 0 → j < m → u j = 0 := by
        intro m
        induction m with
        | zero => intro _ _ h; exact absurd h (Nat.not_lt_zero j)
        | succ m ihm =>
          intro hm hp hj
          have h1 : ps w u (m + 1) = ps w u m + u m * w m := rfl
          by_cases e : j = m
          · subst e
            have h2 : u j * w j = 0 := by omega
            rcases Nat.mul_eq_zero.mp h2 with x | x
            · exact x
            · have := hw j (by omega); omega
          · exact ihm (by omega) (by omega) (by omega)
      exact key n (Nat.le_refl n) (by omega) hj
    · have hti : K (r - 1) < K r := ht.resolve_left h0
      obtain ⟨f', rfl⟩ : ∃ f', f = f' + 1 := ⟨f - 1, by omega⟩
      have h := hk.2 r (by omega) hrW
      rcases fk_cs (w := w) (wo := y) (K := K) (r := r) n with z | ⟨k, a, b, z⟩
      · rw [z] at h
        have e1 : K r = K (r - 1) := congrArg Prod.fst h
        omega
      · have hfst := fk_fst (w := w) (y := y) (K := K) (r := r) n k a (by rw [z]) hn z
        rw [← h] at hfst
        have hfst : ∀ j, j < k → w j ≤ r → K (r - w j) + y j < K r := hfst
        rw [z] at h
        have e1 : K r = K (r - w k) + y k := congrArg Prod.fst h
        have e2 : KP r = nI k := congrArg Prod.snd h
        have hw1 := hw k a
        have lowz : ∀ u : Nat → Nat, ps w u n ≤ r → vl y u n = K r → ∀ j, j < k → u j = 0 := by
          intro u hu hv j hj
          apply Classical.byContradiction
          intro hne
          have hjp : 0 < u j := Nat.pos_of_ne_zero hne
          have g1 := ps_inc (w := w) (p := va_up u j (u j - 1)) (k := j) n (by omega)
          have g2 := vl_inc (wo := y) (p := va_up u j (u j - 1)) (k := j) n (by omega)
          rw [up_dec hjp] at g1 g2
          have hwj := hw j (by omega)
          have h5 := hmax (r - w j) (va_up u j (u j - 1)) (by omega) (by omega)
          have h6 := hfst j hj (by omega)
          omega
        obtain ⟨v1, v2, v3⟩ := tr_val hn hk hw (f' + 1) r hf hrW
        have hpz := lowz _ v2 v3
        have huz := lowz u hu hv
        rw [ta_k h0 e2 (by omega)] at hpz ⊢
        by_cases huk : u k = 0
        · left
          refine ltx_of (j := k) (fun i hi => by rw [huz i hi, hpz i hi]) ?_ n a
          rw [huk, show va_up (ta w KP f' (r - w k) fun _ => 0) k (ta w KP f' (r - w k) (fun _ => 0) k + 1) k = _ from if_pos rfl]
          omega
        · have hkp : 0 < u k := Nat.pos_of_ne_zero huk
          have g1 := ps_inc (w := w) (p := va_up u k (u k - 1)) (k := k) n a
          have g2 := vl_inc (wo := y) (p := va_up u k (u k - 1)) (k := k) n a
          rw [up_dec hkp] at g1 g2
          have ht2 : tight K (r - w k) := by
            by_cases e0 : r - w k = 0
            · exact Or.inl e0
            · right
              apply Classical.byContradiction
              intro hle
              have h7 := hk.2 (r - 1) (by omega) (by omega)
              have h8 := fk_up (w := w) (wo := y) (K := K) (r := r - 1) n k a (by omega)
              rw [← h7] at h8
              have h9 : K (r - 1 - w k) + y k ≤ K (r - 1) := h8
              have h10 : r - w k - 1 = r - 1 - w k := by omega
              rw [h10] at hle
              omega
          have hrec := ih (r - w k) (by omega) f' (by omega) (by omega) ht2 (va_up u k (u k - 1)) (by omega) (by omega)
          have hup : ∀ j, u j = if j = k then va_up u k (u k - 1) j + 1 else va_up u k (u k - 1) j := by
            intro j
            unfold va_up
            by_cases e : j = k
            · rw [if_pos e, if_pos e, e]; omega
            · rw [if_neg e, if_neg e]
          have hup2 : ∀ j, va_up (ta w KP f' (r - w k) fun _ => 0) k (ta w KP f' (r - w k) (fun _ => 0) k + 1) j = if j = k then ta w KP f' (r - w k) (fun _ => 0) j + 1 else ta w KP f' (r - w k) (fun _ => 0) j := by
            intro j
            unfold va_up
            by_cases e : j = k
            · rw [if_pos e, if_pos e, e]
            · rw [if_neg e, if_neg e]
          rcases hrec with c | c
          · left
            obtain ⟨j, c1, c2, c3⟩ := ltx_ex n c
            refine ltx_of (j := j) (fun i hi => ?_) ?_ n c1
            · rw [hup i, hup2 i, c2 i hi]
            · rw [hup j, hup2 j]
              split <;> omega
          · right
            intro j hj
            rw [hup j, hup2 j, c j hj]
/-- the pattern that enters is extreme -/
theorem tr_ext (hn : n ≤ 4) (hk : KOk W n w y K KP) (hw : ∀ k, k < n → 1 ≤ w k) (h0K : ∀ r, r ≤ W → 0 ≤ K r) : ∀ (r f : Nat), r ≤ f → r ≤ W → K r = K W → Extp W n w (ta w KP f r (fun _ => 0)) := by
  intro r
  induction r using Nat.strongRecOn with
  | ind r ih =>
    intro f hf hrW hrK
    by_cases ht : tight K r
    · intro u v hu hv huv
      have hmax := fun (r : Nat) (p : Nat → Nat) (a : r ≤ W) (b : ps w p n ≤ r) => K_max hk hw h0K (sn p n) r p rfl a b
      obtain ⟨v1, v2, v3⟩ := tr_val hn hk hw f r hf hrW
      have hvl : ∀ m, m ≤ n → vl y u m + vl y v m = 2 * vl y (ta w KP f r fun _ => 0) m ∧ ps w u m + ps w v m = 2 * ps w (ta w KP f r fun _ => 0) m := by
        intro m
        induction m with
        | zero => intro _; exact ⟨rfl, rfl⟩
        | succ m ihm =>
          intro hm
          obtain ⟨i1, i2⟩ := ihm (by omega)
          have e := huv m (by omega)
          constructor
          · show vl y u m + (u m : Int) * y m + (vl y v m + (v m : Int) * y m) = 2 * (vl y _ m + ((ta w KP f r (fun _ => 0) m : Nat) : Int) * y m)
            have e2 : (u m : Int) * y m + (v m : Int) * y m = 2 * (((ta w KP f r (fun _ => 0) m : Nat) : Int) * y m) := by
              rw [← Int.add_mul, ← Int.mul_assoc]
              congr 1
              omega
            omega
          · show ps w u m + u m * w m + (ps w v m + v m * w m) = 2 * (ps w _ m + ta w KP f r (fun _ => 0) m * w m)
            have e2 : u m * w m + v m * w m = 2 * (ta w KP f r (fun _ => 0) m * w m) := by
              rw [← Nat.add_mul, ← Nat.mul_assoc, e]
            omega
      obtain ⟨s1, s2⟩ := hvl n (Nat.le_refl n)
      have u1 := hmax W u (Nat.le_refl W) hu
      have u2 := hmax W v (Nat.le_refl W) hv
      have uK : vl y u n = K r := by omega
      have vK : vl y v n = K r := by omega
      have low : ∀ p : Nat → Nat, vl y p n = K r → r ≤ ps w p n := by
        intro p hp
        apply Nat.le_of_not_lt
        intro z
        rcases ht with e | e
        · omega
        · have := hmax (r - 1) p (by omega) (by omega)
          omega
      have l1 := low u uK
      have l2 := low v vK
      have c1 := tr_lex hn hk hw h0K r f hf hrW ht u (by omega) uK
      have c2 := tr_lex hn hk hw h0K r f hf hrW ht v (by omega) vK
      rcases c1 with c | c
      · exfalso
        obtain ⟨j, d1, d2, d3⟩ := ltx_ex n c
        have hvj : ∀ i, i < j → v i = ta w KP f r (fun _ => 0) i := fun i hi => by have := huv i (by omega); have := d2 i hi; omega
        have hvj2 : ta w KP f r (fun _ => 0) j < v j := by have := huv j d1; omega
        rcases c2 with g | g
        · obtain ⟨i, g1, g2, g3⟩ := ltx_ex n g
          rcases Nat.lt_trichotomy i j with x | x | x
          · have := hvj i x; omega
          · subst x; omega
          · have := g2 j x; omega
        · have := g j d1; omega
      · exact c
    · have hr0 : r ≠ 0 := fun z => ht (Or.inl z)
      have hm := K_mono hk r (by omega) hrW
      have he : K r = K (r - 1) := by
        have : ¬ K (r - 1) < K r := fun z => ht (Or.inr z)
        omega
      obtain ⟨f', rfl⟩ : ∃ f', f = f' + 1 := ⟨f - 1, by omega⟩
      have h := hk.2 r (by omega) hrW
      have e2 : KP r = -1 := by
        have key : ∀ m, (fk w y K r m).1 ≤ K (r - 1) → (fk w y K r m).2 = -1 := by
          intro m
          induction m with
          | zero => intro _; rfl
          | succ m ihm =>
            intro hle
            unfold fk at hle ⊢
            by_cases c : w m ≤ r ∧ (fk w y K r m).1 < K (r - w m) + y m
            · rw [if_pos c] at hle
              exfalso
              have hge : K (r - 1) ≤ (fk w y K r m).1 := by
                have key2 : ∀ m, K (r - 1) ≤ (fk w y K r m).1 := by
                  intro m
                  induction m with
                  | zero => exact Int.le_refl _
                  | succ m ih2 =>
                    unfold fk
                    split
                    · rename_i z; exact Int.le_of_lt (Int.lt_of_le_of_lt ih2 z.2)
                    · exact ih2
                exact key2 m
              have h5 : K (r - w m) + y m ≤ K (r - 1) := hle
              omega
            · rw [if_neg c] at hle ⊢
              exact ihm hle
        have h5 := key n (by rw [← h]; show K r ≤ K (r - 1); omega)
        rw [← h] at h5
        exact h5
      rw [ta_m hr0 e2]
      exact ih (r - 1) (by omega) f' (by omega) (by omega) (by omega)
end TRACE
