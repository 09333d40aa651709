/-! the greatest worth of a pattern; price -/
def IsMx (W n : Nat) (w : Nat → Nat) (wo : Nat → Int) (m : Int) : Prop := (∀ p : Nat → Nat, ps w p n ≤ W → vl wo p n ≤ m) ∧ ∃ p : Nat → Nat, ps w p n ≤ W ∧ vl wo p n = m
theorem isMx_uniq {W n : Nat} {w : Nat → Nat} {wo : Nat → Int} {m m' : Int} (h : IsMx W n w wo m) (h' : IsMx W n w wo m') : m = m' := by
  obtain ⟨p, a, b⟩ := h.2
  obtain ⟨p', a', b'⟩ := h'.2
  have := h'.1 p a
  have := h.1 p' a'
  omega
theorem ps_upd {w p : Nat → Nat} {k x : Nat} : ∀ n, n ≤ k → ps w (va_up p k x) n = ps w p n
  | 0, _ => rfl
  | n + 1, h => by
    show ps w (va_up p k x) n + va_up p k x n * w n = ps w p n + p n * w n
    rw [ps_upd n (by omega), show va_up p k x n = p n from if_neg (by omega)]
theorem vl_upd {wo : Nat → Int} {p : Nat → Nat} {k x : Nat} : ∀ n, n ≤ k → vl wo (va_up p k x) n = vl wo p n
  | 0, _ => rfl
  | n + 1, h => by
    show vl wo (va_up p k x) n + ((va_up p k x n : Nat) : Int) * wo n = vl wo p n + (p n : Int) * wo n
    rw [vl_upd n (by omega), show va_up p k x n = p n from if_neg (by omega)]
theorem ps_inc {w p : Nat → Nat} {k : Nat} : ∀ n, k < n → ps w (va_up p k (p k + 1)) n = ps w p n + w k
  | 0, h => absurd h (Nat.not_lt_zero k)
  | n + 1, h => by
    show ps w (va_up p k (p k + 1)) n + va_up p k (p k + 1) n * w n = ps w p n + p n * w n + w k
    by_cases e : k = n
    · subst e
      rw [ps_upd k (Nat.le_refl k), show va_up p k (p k + 1) k = p k + 1 from if_pos rfl, Nat.succ_mul]
      omega
    · rw [ps_inc n (by omega), show va_up p k (p k + 1) n = p n from if_neg (by omega)]
      omega
theorem vl_inc {wo : Nat → Int} {p : Nat → Nat} {k : Nat} : ∀ n, k < n → vl wo (va_up p k (p k + 1)) n = vl wo p n + wo k
  | 0, h => absurd h (Nat.not_lt_zero k)
  | n + 1, h => by
    show vl wo (va_up p k (p k + 1)) n + ((va_up p k (p k + 1) n : Nat) : Int) * wo n = vl wo p n + (p n : Int) * wo n + wo k
    by_cases e : k = n
    · subst e
      rw [vl_upd k (Nat.le_refl k), show va_up p k (p k + 1) k = p k + 1 from if_pos rfl]
      have : ((p k + 1 : Nat) : Int) * wo k = (p k : Int) * wo k + wo k := by rw [Int.natCast_add, Int.add_mul, Int.natCast_one, Int.one_mul]
      omega
    · rw [vl_inc n (by omega), show va_up p k (p k + 1) n = p n from if_neg (by omega)]
      omega
theorem up_dec {p : Nat → Nat} {k : Nat} (h : 0 < p k) : va_up (va_up p k (p k - 1)) k (va_up p k (p k - 1) k + 1) = p := by
  funext j
  unfold va_up
  by_cases e : j = k
  · subst e
    rw [if_pos rfl, if_pos rfl]
    omega
  · rw [if_neg e, if_neg e]
theorem vl_zero {wo : Nat → Int} {p : Nat → Nat} : ∀ n, (∀ k, k < n → p k = 0) → vl wo p n = 0
  | 0, _ => rfl
  | n + 1, h => by
    show vl wo p n + (p n : Int) * wo n = 0
    rw [vl_zero n (fun k hk => h k (by omega)), h n (by omega)]
    simp
def sn (p : Nat → Nat) : Nat → Nat
  | 0 => 0
  | k + 1 => sn p k + p k
theorem sn_pos {p : Nat → Nat} : ∀ n, 0 < sn p n → ∃ k, k < n ∧ 0 < p k
  | 0, h => absurd h (Nat.lt_irrefl 0)
  | n + 1, h => by
    by_cases e : 0 < p n
    · exact ⟨n, by omega, e⟩
    · obtain ⟨k, a, b⟩ := sn_pos (p := p) n (by have h2 : sn p (n + 1) = sn p n + p n := rfl; omega)
      exact ⟨k, by omega, b⟩
theorem sn_upd {p : Nat → Nat} {k x : Nat} : ∀ n, n ≤ k → sn (va_up p k x) n = sn p n
  | 0, _ => rfl
  | n + 1, h => by
    show sn (va_up p k x) n + va_up p k x n = sn p n + p n
    rw [sn_upd n (by omega), show va_up p k x n = p n from if_neg (by omega)]
theorem sn_dec {p : Nat → Nat} {k : Nat} (hp : 0 < p k) : ∀ n, k < n → sn (va_up p k (p k - 1)) n + 1 = sn p n
  | 0, h => absurd h (Nat.not_lt_zero k)
  | n + 1, h => by
    show sn (va_up p k (p k - 1)) n + va_up p k (p k - 1) n + 1 = sn p n + p n
    by_cases e : k = n
    · subst e
      rw [sn_upd k (Nat.le_refl k), show va_up p k (p k - 1) k = p k - 1 from if_pos rfl]
      omega
    · rw [show va_up p k (p k - 1) n = p n from if_neg (by omega)]
      have := sn_dec hp n (by omega)
      omega
section MX
variable {W n : Nat} {w : Nat → Nat} {wo K : Nat → Int} {KP : Nat → Int32}
theorem fk_up {r : Nat} : ∀ m k, k < m → w k ≤ r → K (r - w k) + wo k ≤ (fk w wo K r m).1
  | 0, k, h, _ => absurd h (Nat.not_lt_zero k)
  | m + 1, k, h, hw => by
    unfold fk
    by_cases e : k = m
    · subst e
      split
      · exact Int.le_refl _
      · rename_i z
        exact Int.not_lt.mp (fun q => z ⟨hw, q⟩)
    · have ih := fk_up m k (by omega) hw
      split
      · rename_i z
        exact Int.le_of_lt (Int.lt_of_le_of_lt ih z.2)
      · exact ih
theorem fk_cs {r : Nat} : ∀ m, (fk w wo K r m = (K (r - 1), -1)) ∨ ∃ k, k < m ∧ w k ≤ r ∧ fk w wo K r m = (K (r - w k) + wo k, nI k)
  | 0 => Or.inl rfl
  | m + 1 => by
    unfold fk
    split
    · rename_i z
      exact Or.inr ⟨m, by omega, z.1, rfl⟩
    · rcases fk_cs m (r := r) with h | ⟨k, a, b, c⟩
      · exact Or.inl h
      · exact Or.inr ⟨k, by omega, b, c⟩
theorem K_max (hk : KOk W n w wo K KP) (hw : ∀ k, k < n → 1 ≤ w k) (h0 : ∀ r, r ≤ W → 0 ≤ K r) : ∀ (s r : Nat) (p : Nat → Nat), sn p n = s → r ≤ W → ps w p n ≤ r → vl wo p n ≤ K r := by
  intro s
  induction s with
  | zero =>
    intro r p hs hr hp
    have hz : ∀ k, k < n → p k = 0 := by
      intro k hk2
      have : ∀ n, k < n → sn p n = 0 → p k = 0 := by
        intro n
        induction n with
        | zero => intro h; exact absurd h (Nat.not_lt_zero k)
        | succ n ih =>
          intro h1 h2
          have h3 : sn p (n + 1) = sn p n + p n := rfl
          by_cases e : k = n
          · subst e; omega
          · exact ih (by omega) (by omega)
      exact this n hk2 hs
    rw [vl_zero n hz]
    exact h0 r hr
  | succ s ih =>
    intro r p hs hr hp
    obtain ⟨k, hkn, hpk⟩ := sn_pos (p := p) n (by omega)
    have hw1 := hw k hkn
    have e1 := ps_inc (w := w) (p := va_up p k (p k - 1)) (k := k) n hkn
    have e2 := vl_inc (wo := wo) (p := va_up p k (p k - 1)) (k := k) n hkn
    rw [up_dec hpk] at e1 e2
    have e3 := sn_dec hpk n hkn
    have h1 := ih (r - w k) (va_up p k (p k - 1)) (by omega) (by omega) (by omega)
    have h2 := hk.2 r (by omega) hr
    have h3 := fk_up (w := w) (wo := wo) (K := K) (r := r) n k hkn (by omega)
    rw [← h2] at h3
    have h4 : (K r, KP r).1 = K r := rfl
    omega
theorem K_made (hk : KOk W n w wo K KP) (hw : ∀ k, k < n → 1 ≤ w k) : ∀ (r : Nat), r ≤ W → ∃ p : Nat → Nat, ps w p n ≤ r ∧ vl wo p n = K r := by
  intro r
  induction r using Nat.strongRecOn with
  | ind r ih =>
    intro hr
    by_cases e : r = 0
    · subst e
      exact ⟨fun _ => 0, by
        have : ∀ n, ps w (fun _ => 0) n = 0 := fun n => by
          induction n with
          | zero => rfl
          | succ n ih => show ps w (fun _ => 0) n + 0 * w n = 0; rw [ih, Nat.zero_mul]
        rw [this]
        exact Nat.le_refl _, by rw [vl_zero n (fun _ _ => rfl), hk.1]⟩
    · have h2 := hk.2 r (by omega) hr
      rcases fk_cs (w := w) (wo := wo) (K := K) (r := r) n with h | ⟨k, a, b, c⟩
      · rw [h] at h2
        have h3 : K r = K (r - 1) := congrArg Prod.fst h2
        obtain ⟨p, h4, h5⟩ := ih (r - 1) (by omega) (by omega)
        exact ⟨p, by omega, by rw [h5, h3]⟩
      · rw [c] at h2
        have h3 : K r = K (r - w k) + wo k := congrArg Prod.fst h2
        have hw1 := hw k a
        obtain ⟨p, h4, h5⟩ := ih (r - w k) (by omega) (by omega)
        exact ⟨va_up p k (p k + 1), by rw [ps_inc n a]; omega, by rw [vl_inc n a, h5, h3]⟩
theorem K_isMx (hk : KOk W n w wo K KP) (hw : ∀ k, k < n → 1 ≤ w k) (h0 : ∀ r, r ≤ W → 0 ≤ K r) : IsMx W n w wo (K W) :=
  ⟨fun p hp => K_max hk hw h0 (sn p n) W p rfl (Nat.le_refl W) hp, K_made hk hw W (Nat.le_refl W)⟩
/-! the reference's enumeration -/
theorem fd_ge {f : Nat → Int × (Nat → Nat) → Int × (Nat → Nat)} : ∀ (M : Nat) (S : Int × (Nat → Nat)), (∀ i S, i < M → S.1 ≤ (f i S).1) → S.1 ≤ (fd f M S).1
  | 0, _, _ => Int.le_refl _
  | M + 1, S, h => Int.le_trans (h M S (by omega)) (fd_ge M (f M S) (fun i S hi => h i S (by omega)))
theorem fd_gat {f : Nat → Int × (Nat → Nat) → Int × (Nat → Nat)} {t : Int} : ∀ (M : Nat) (S : Int × (Nat → Nat)) (i : Nat), i < M → (∀ i S, i < M → S.1 ≤ (f i S).1) → (∀ S, t ≤ (f i S).1) → t ≤ (fd f M S).1
  | 0, _, i, h, _, _ => absurd h (Nat.not_lt_zero i)
  | M + 1, S, i, h, hd, ht => by
    show t ≤ (fd f M (f M S)).1
    by_cases e : i = M
    · subst e
      exact Int.le_trans (ht S) (fd_ge i (f i S) (fun j S hj => hd j S (by omega)))
    · exact fd_gat M (f M S) i (by omega) (fun j S hj => hd j S (by omega)) ht
theorem db_ge {a b c : Nat} {S : Int × (Nat → Nat)} : S.1 ≤ (db W n w wo a b c S).1 := by
  unfold db
  split
  · rename_i h; exact Int.le_of_lt h
  · exact Int.le_refl _
theorem db_at {a b c : Nat} {S : Int × (Nat → Nat)} : vl wo (vp4 W n w a b c) 4 ≤ (db W n w wo a b c S).1 := by
  unfold db
  split
  · exact Int.le_refl _
  · rename_i h; exact Int.not_lt.mp h
theorem g3_ge {a b : Nat} {S : Int × (Nat → Nat)} : S.1 ≤ (g3 W n w wo a b S).1 := fd_ge _ _ (fun _ _ _ => db_ge)
theorem g2_ge {a : Nat} {S : Int × (Nat → Nat)} : S.1 ≤ (g2 W n w wo a S).1 := fd_ge _ _ (fun _ _ _ => g3_ge)
theorem g1_at {a b c : Nat} {S : Int × (Nat → Nat)} (ha : a ≤ mo n w 0 W) (hb : b ≤ mo n w 1 (r1 W n w a)) (hc : c ≤ mo n w 2 (r2 W n w a b)) : vl wo (vp4 W n w a b c) 4 ≤ (g1 W n w wo S).1 := by
  refine fd_gat _ _ a (by omega) (fun _ _ _ => g2_ge) (fun S => ?_)
  refine fd_gat _ _ b (by omega) (fun _ _ _ => g3_ge) (fun S => ?_)
  refine fd_gat _ _ c (by omega) (fun _ _ _ => db_ge) (fun S => ?_)
  exact db_at
/-- what is recorded is a pattern of the enumeration -/
def Rec (W n : Nat) (w : Nat → Nat) (wo : Nat → Int) (S0 S : Int × (Nat → Nat)) : Prop := S = S0 ∨ ∃ a b c, a ≤ mo n w 0 W ∧ b ≤ mo n w 1 (r1 W n w a) ∧ c ≤ mo n w 2 (r2 W n w a b) ∧ S = (vl wo (vp4 W n w a b c) 4, vp4 W n w a b c)
theorem g1_rec {S0 : Int × (Nat → Nat)} : Rec W n w wo S0 (g1 W n w wo S0) := by
  refine fd_inv (P := Rec W n w wo S0) _ _ (Or.inl rfl) (fun a S1 ha h1 => ?_)
  refine fd_inv (P := Rec W n w wo S0) _ _ h1 (fun b S2 hb h2 => ?_)
  refine fd_inv (P := Rec W n w wo S0) _ _ h2 (fun c S3 hc h3 => ?_)
  show Rec W n w wo S0 (db W n w wo a b c S3)
  unfold db
  split
  · exact Or.inr ⟨a, b, c, by omega, by omega, by omega, rfl⟩
  · exact h3
theorem vl_congr {wo wo' : Nat → Int} {p p' : Nat → Nat} : ∀ n, (∀ k, k < n → wo k = wo' k ∧ p k = p' k) → vl wo p n = vl wo' p' n
  | 0, _ => rfl
  | n + 1, h => by
    show vl wo p n + (p n : Int) * wo n = vl wo' p' n + (p' n : Int) * wo' n
    rw [vl_congr n (fun k hk => h k (by omega)), (h n (by omega)).1, (h n (by omega)).2]
theorem vl_n {p : Nat → Nat} (h : ∀ k, n ≤ k → k < 4 → p k = 0) : ∀ m, n + m ≤ 4 → vl wo p (n + m) = vl wo p n
  | 0, _ => rfl
  | m + 1, hm => by
    show vl wo p (n + m) + (p (n + m) : Int) * wo (n + m) = _
    rw [h (n + m) (by omega) (by omega), vl_n h m (by omega)]
    simp
theorem vl_4 (hn : n ≤ 4) {p : Nat → Nat} (h : ∀ k, n ≤ k → k < 4 → p k = 0) : vl wo p 4 = vl wo p n := by
  have := vl_n (wo := wo) h (4 - n) (by omega)
  rw [show n + (4 - n) = 4 by omega] at this
  exact this
theorem mo_zero {k room : Nat} (h : n ≤ k) : mo n w k room = 0 := if_neg (by omega)
theorem vp4_pat (hn : n ≤ 4) {a b c : Nat} (ha : a ≤ mo n w 0 W) (hb : b ≤ mo n w 1 (r1 W n w a)) (hc : c ≤ mo n w 2 (r2 W n w a b)) : (∀ k, n ≤ k → k < 4 → vp4 W n w a b c k = 0) ∧ ps w (vp4 W n w a b c) n ≤ W := by
  have m0 := mo_mul ha
  have m1 := mo_mul hb
  have m2 := mo_mul hc
  have m3 := mo_mul (n := n) (w := w) (k := 3) (room := r3 W n w a b c) (Nat.le_refl _)
  have hz : ∀ k, n ≤ k → k < 4 → vp4 W n w a b c k = 0 := by
    intro k h1 h2
    match k, h2, h1 with
    | 0, _, h1 => have := mo_zero (w := w) (room := W) h1; show a = 0; omega
    | 1, _, h1 => have := mo_zero (w := w) (room := r1 W n w a) h1; show b = 0; omega
    | 2, _, h1 => have := mo_zero (w := w) (room := r2 W n w a b) h1; show c = 0; omega
    | 3, _, h1 => exact mo_zero h1
  refine ⟨hz, ?_⟩
  rw [ps_congr (g := vp4 W n w a b c) (w := w) n (fun _ _ => rfl)]
  have e : ps w (vp4 W n w a b c) n = ps (qn n w) (vp4 W n w a b c) n := by
    have : ∀ m, m ≤ n → ps w (vp4 W n w a b c) m = ps (qn n w) (vp4 W n w a b c) m := by
      intro m
      induction m with
      | zero => intro _; rfl
      | succ m ih =>
        intro hm
        show ps w _ m + _ * w m = ps (qn n w) _ m + _ * qn n w m
        rw [ih (by omega), show qn n w m = w m from if_pos (by omega)]
    exact this n (Nat.le_refl n)
  rw [e, ps_n hn hz]
  show a * qn n w 0 + b * qn n w 1 + c * qn n w 2 + mo n w 3 (r3 W n w a b c) * qn n w 3 ≤ W
  unfold r3 r2 r1 at *
  omega
theorem le_mo {k room x : Nat} (hw : ∀ k, k < n → 1 ≤ w k) (h : x * qn n w k ≤ room) (hz : n ≤ k → x = 0) : x ≤ mo n w k room := by
  unfold mo
  unfold qn at h
  by_cases e : k < n
  · rw [if_pos e] at h ⊢
    rw [Nat.le_div_iff_mul_le (hw k e)]
    exact h
  · rw [if_neg e]
    have := hz (by omega)
    omega
/-- every pattern is worth no more than one of the enumeration -/
theorem g1_max (hn : n ≤ 4) (hw : ∀ k, k < n → 1 ≤ w k) (hwo : ∀ k, k < 4 → 0 ≤ wo k) {S : Int × (Nat → Nat)} (p : Nat → Nat) (hp : ps w p n ≤ W) : vl wo p n ≤ (g1 W n w wo S).1 := by
  have hz : ∀ k, n ≤ k → k < 4 → qn n p k = 0 := fun k h _ => if_neg (by omega)
  have e1 : ps w p n = wt (qn n w) (qn n p) := by
    rw [← ps_n hn hz]
    have : ∀ m, m ≤ n → ps w p m = ps (qn n w) (qn n p) m := by
      intro m
      induction m with
      | zero => intro _; rfl
      | succ m ih =>
        intro hm
        show ps w p m + p m * w m = ps (qn n w) (qn n p) m + qn n p m * qn n w m
        rw [ih (by omega), show qn n w m = w m from if_pos (by omega), show qn n p m = p m from if_pos (by omega)]
    exact this n (Nat.le_refl n)
  have e2 : vl wo p n = vl wo (qn n p) 4 := by
    rw [vl_4 hn hz]
    exact vl_congr n (fun k hk => ⟨rfl, (if_pos hk).symm⟩)
  rw [e1] at hp
  have hp' : qn n p 0 * qn n w 0 + qn n p 1 * qn n w 1 + qn n p 2 * qn n w 2 + qn n p 3 * qn n w 3 ≤ W := hp
  have za : ∀ k, k < 4 → n ≤ k → qn n p k = 0 := fun k h1 h2 => hz k h2 h1
  have ha : qn n p 0 ≤ mo n w 0 W := le_mo hw (by omega) (za 0 (by omega))
  have hb : qn n p 1 ≤ mo n w 1 (r1 W n w (qn n p 0)) := le_mo hw (by unfold r1; omega) (za 1 (by omega))
  have hc : qn n p 2 ≤ mo n w 2 (r2 W n w (qn n p 0) (qn n p 1)) := le_mo hw (by unfold r2 r1; omega) (za 2 (by omega))
  have he : qn n p 3 ≤ mo n w 3 (r3 W n w (qn n p 0) (qn n p 1) (qn n p 2)) := le_mo hw (by unfold r3 r2 r1; omega) (za 3 (by omega))
  have h1 := g1_at (wo := wo) (S := S) ha hb hc
  refine Int.le_trans ?_ h1
  rw [e2]
  show 0 + (qn n p 0 : Int) * wo 0 + (qn n p 1 : Int) * wo 1 + (qn n p 2 : Int) * wo 2 + (qn n p 3 : Int) * wo 3 ≤ 0 + (qn n p 0 : Int) * wo 0 + (qn n p 1 : Int) * wo 1 + (qn n p 2 : Int) * wo 2 + ((mo n w 3 (r3 W n w (qn n p 0) (qn n p 1) (qn n p 2)) : Nat) : Int) * wo 3
  have h2 : (qn n p 3 : Int) * wo 3 ≤ ((mo n w 3 (r3 W n w (qn n p 0) (qn n p 1) (qn n p 2)) : Nat) : Int) * wo 3 := Int.mul_le_mul_of_nonneg_right (by omega) (hwo 3 (by omega))
  omega
theorem g1_isMx (hn : n ≤ 4) (hw : ∀ k, k < n → 1 ≤ w k) (hwo : ∀ k, k < 4 → 0 ≤ wo k) {pi : Nat → Nat} : IsMx W n w wo (g1 W n w wo (-1, pi)).1 ∧ (∀ k, n ≤ k → k < 4 → (g1 W n w wo (-1, pi)).2 k = 0) ∧ ps w (g1 W n w wo (-1, pi)).2 n ≤ W ∧ vl wo (g1 W n w wo (-1, pi)).2 n = (g1 W n w wo (-1, pi)).1 := by
  have hps0 : ∀ n, ps w (fun _ => 0) n = 0 := fun n => by
    induction n with
    | zero => rfl
    | succ n ih => show ps w (fun _ => 0) n + 0 * w n = 0; rw [ih, Nat.zero_mul]
  have h0 := g1_max (W := W) (S := (-1, pi)) hn hw hwo (fun _ => 0) (by rw [hps0]; exact Nat.zero_le _)
  rw [vl_zero n (fun _ _ => rfl)] at h0
  rcases g1_rec (W := W) (n := n) (w := w) (wo := wo) (S0 := (-1, pi)) with h | ⟨a, b, c, ha, hb, hc, h⟩
  · rw [h] at h0
    exact absurd h0 (by show ¬ (0 : Int) ≤ -1; decide)
  · obtain ⟨z1, z2⟩ := vp4_pat hn ha hb hc
    have hv : vl wo (vp4 W n w a b c) n = vl wo (vp4 W n w a b c) 4 := (vl_4 hn z1).symm
    refine ⟨⟨fun p hp => g1_max hn hw hwo p hp, ?_⟩, ?_, ?_, ?_⟩
    · rw [h]
      exact ⟨_, z2, hv⟩
    · rw [h]; exact z1
    · rw [h]; exact z2
    · rw [h]; exact hv
end MX
section PRICE
variable {W n : Nat} {w q : Nat → Nat} {h tl : List PC} {d : Nat}
def PriceOk (x0 x1 x2 x3 : Int32) : Prop := (¬ x0 < 0 ∧ x0 ≤ 1000000) ∧ (¬ x1 < 0 ∧ x1 ≤ 1000000) ∧ (¬ x2 < 0 ∧ x2 ≤ 1000000) ∧ (¬ x3 < 0 ∧ x3 ≤ 1000000)
def pr4 (x0 x1 x2 x3 : Int32) : Nat → Int := fun k => match k with
  | 0 => x0.toInt
  | 1 => x1.toInt
  | 2 => x2.toInt
  | _ => x3.toInt
theorem price_sm {x : Int32} (h : ¬ x < 0 ∧ x ≤ 1000000) : 0 ≤ x.toInt ∧ x.toInt ≤ 1000000 := by
  have h1 : ¬ x.toInt < (0 : Int32).toInt := fun z => h.1 (Int32.lt_iff_toInt_lt.mpr z)
  have h2 := Int32.le_iff_toInt_le.mp h.2
  have h3 : (0 : Int32).toInt = 0 := rfl
  have h4 : (1000000 : Int32).toInt = 1000000 := rfl
  omega
theorem i32_lI (x : Int32) : x.toInt64 = lI x.toInt := rfl
theorem lI_32 {z : Int} (h0 : 0 ≤ z) : (lI z).toInt32 = nI z.toNat := by
  obtain ⟨k, rfl⟩ := Int.eq_ofNat_of_zero_le h0
  exact lI_nI k
set_option maxHeartbeats 8000000 in
set_option maxRecDepth 100000 in
theorem c_price (x0 x1 x2 x3 : Int32) (ha : CA W n w q h tl) (hd : 2 ≤ d) : Con yX5_price cX5_price 5 (some .int) d [.ref 0, .int x0, .int x1, .int x2, .int x3] h (fun r h' => (¬ PriceOk x0 x1 x2 x3 ∧ r = some (.int (-1)) ∧ h' = h) ∨ ∃ m : Int, PriceOk x0 x1 x2 x3 ∧ IsMx W n w (pr4 x0 x1 x2 x3) m ∧ r = some (.int (nI m.toNat)) ∧ CA W n w q h' tl) := by
  obtain ⟨l, sd, cu, re, pa, N, F, ok, hq, hs, hN, rfl⟩ := ha
  obtain ⟨hn, hW, hW2, hw, hl⟩ := id ok
  refine con_of [(0, .ref 0), (1, .int x0), (2, .int x1), (3, .int x2), (4, .int x3)] (by decide) (fun _ => Nat.le_of_ble_eq_true rfl) (fun _ => rfl) (fun X C E => ?_)
  have no : ¬ PriceOk x0 x1 x2 x3 → V 5 X (hC (jJ W n w q) (iN l) (pP sd cu re pa) N F tl) 29 [(0, .ref 0), (1, .int x0), (2, .int x1), (3, .int x2), (4, .int x3)] [] := by
    intro z
    refine v_iconst C (-1) dX5_price_29 (by decide) ?_
    exact v_iret C E dX5_price_30 (Or.inl ⟨z, rfl, rfl⟩)
  refine v_iload_n C dX5_price_0 rfl ?_
  refine v_callS C dX5_price_1 lk_X5_120 (c_isPrice (d := 0) x0) (by omega) rfl rfl (Nat.le_of_ble_eq_true rfl) ?_
  rintro r h' ⟨rfl, rfl⟩
  by_cases c0 : ¬ x0 < 0 ∧ x0 ≤ 1000000
  case neg =>
    rw [if_neg c0]
    refine v_if_eq C 29 dX5_price_4 (by decide) (fun _ => ?_) (fun z => absurd rfl z)
    exact no (fun z => c0 z.1)
  rw [if_pos c0]
  refine v_if_eq C 29 dX5_price_4 (by decide) (fun z => absurd z (by decide)) (fun _ => ?_)
  refine v_iload_n C dX5_price_7 rfl ?_
  refine v_callS C dX5_price_8 lk_X5_120 (c_isPrice (d := 0) x1) (by omega) rfl rfl (Nat.le_of_ble_eq_true rfl) ?_
  rintro r h' ⟨rfl, rfl⟩
  by_cases c1 : ¬ x1 < 0 ∧ x1 ≤ 1000000
  case neg =>
    rw [if_neg c1]
    refine v_if_eq C 29 dX5_price_11 (by decide) (fun _ => ?_) (fun z => absurd rfl z)
    exact no (fun z => c1 z.2.1)
  rw [if_pos c1]
  refine v_if_eq C 29 dX5_price_11 (by decide) (fun z => absurd z (by decide)) (fun _ => ?_)
  refine v_iload_n C dX5_price_14 rfl ?_
  refine v_callS C dX5_price_15 lk_X5_120 (c_isPrice (d := 0) x2) (by omega) rfl rfl (Nat.le_of_ble_eq_true rfl) ?_
  rintro r h' ⟨rfl, rfl⟩
  by_cases c2 : ¬ x2 < 0 ∧ x2 ≤ 1000000
  case neg =>
    rw [if_neg c2]
    refine v_if_eq C 29 dX5_price_18 (by decide) (fun _ => ?_) (fun z => absurd rfl z)
    exact no (fun z => c2 z.2.2.1)
  rw [if_pos c2]
  refine v_if_eq C 29 dX5_price_18 (by decide) (fun z => absurd z (by decide)) (fun _ => ?_)
  refine v_iload C dX5_price_21 rfl ?_
  refine v_callS C dX5_price_23 lk_X5_120 (c_isPrice (d := 0) x3) (by omega) rfl rfl (Nat.le_of_ble_eq_true rfl) ?_
  rintro r h' ⟨rfl, rfl⟩
  by_cases c3 : ¬ x3 < 0 ∧ x3 ≤ 1000000
  case neg =>
    rw [if_neg c3]
    refine v_if_ne C 31 dX5_price_26 (by decide) (fun z => absurd rfl z) (fun _ => ?_)
    exact no (fun z => c3 z.2.2.2)
  rw [if_pos c3]
  refine v_if_ne C 31 dX5_price_26 (by decide) (fun _ => ?_) (fun z => absurd z (by decide))
  have p0 := price_sm c0
  have p1 := price_sm c1
  have p2 := price_sm c2
  have p3 := price_sm c3
  have hw1 : ∀ k, k < n → 1 ≤ w k := fun k hk => (hw k hk).1
  have hsm : ∀ k, k < 4 → Sm 1000000 (pr4 x0 x1 x2 x3 k) := all4 ⟨by show -1000000 ≤ x0.toInt; omega, p0.2⟩ ⟨by show -1000000 ≤ x1.toInt; omega, p1.2⟩ ⟨by show -1000000 ≤ x2.toInt; omega, p2.2⟩ ⟨by show -1000000 ≤ x3.toInt; omega, p3.2⟩
  refine v_aload_n C dX5_price_31 rfl ?_
  refine v_get C dX5_price_32 fl_X5_37 rfl rfl ?_
  refine v_get C dX5_price_35 fl_X5_123 rfl rfl ?_
  refine v_iconst C (0) dX5_price_38 (by decide) ?_
  refine v_iload_n C dX5_price_39 rfl ?_
  refine v_i2l C dX5_price_40 ?_
  refine v_last C 0 dX5_price_41 rfl rfl (by decide) (by decide) ?_
  refine v_aload_n C dX5_price_42 rfl ?_
  refine v_get C dX5_price_43 fl_X5_37 rfl rfl ?_
  refine v_get C dX5_price_46 fl_X5_123 rfl rfl ?_
  refine v_iconst C (1) dX5_price_49 (by decide) ?_
  refine v_iload_n C dX5_price_50 rfl ?_
  refine v_i2l C dX5_price_51 ?_
  refine v_last C 1 dX5_price_52 rfl rfl (by decide) (by decide) ?_
  refine v_aload_n C dX5_price_53 rfl ?_
  refine v_get C dX5_price_54 fl_X5_37 rfl rfl ?_
  refine v_get C dX5_price_57 fl_X5_123 rfl rfl ?_
  refine v_iconst C (2) dX5_price_60 (by decide) ?_
  refine v_iload_n C dX5_price_61 rfl ?_
  refine v_i2l C dX5_price_62 ?_
  refine v_last C 2 dX5_price_63 rfl rfl (by decide) (by decide) ?_
  refine v_aload_n C dX5_price_64 rfl ?_
  refine v_get C dX5_price_65 fl_X5_37 rfl rfl ?_
  refine v_get C dX5_price_68 fl_X5_123 rfl rfl ?_
  refine v_iconst C (3) dX5_price_71 (by decide) ?_
  refine v_iload C dX5_price_72 rfl ?_
  refine v_i2l C dX5_price_74 ?_
  refine v_last C 3 dX5_price_75 rfl rfl (by decide) (by decide) ?_
  refine v_aload_n C dX5_price_76 rfl ?_
  refine v_get C dX5_price_77 fl_X5_37 rfl rfl ?_
  refine v_callV C dX5_price_80 lk_X5_127 (c_greatest (d := 1) (W := W) (n := n) (w := w) (q := q) (L := iN l) (P := pP sd cu re pa) (F := F) (tl := tl) (wo := pr4 x0 x1 x2 x3) (wl := vp_updL (vp_updL (vp_updL (vp_updL N.1 0 x0.toInt64) 1 x1.toInt64) 2 x2.toInt64) 3 x3.toInt64) (bl := N.2.1) (pc := N.2.2) hn hW2 (fun k hk => ⟨(hw k hk).1, Nat.le_trans (hw k hk).2 hW2⟩) 1000000 (by decide) (by decide) (fun k hk => ?_) (fun k hk => hsm k (by omega)) hN.1 (by decide)) (by omega) rfl rfl rfl rfl rfl (Nat.le_of_ble_eq_true rfl) ?_
  · match k, Nat.lt_of_lt_of_le hk hn with
    | 0, _ => rfl
    | 1, _ => rfl
    | 2, _ => rfl
    | 3, _ => rfl
  rintro o h' ⟨bl', pc', K, KP, k1, k2, k3, rfl, rfl⟩
  have hb := KOk_sm (w := w) (wo := pr4 x0 x1 x2 x3) (n := n) (R := W) (M := 1000000) (by decide) hw1 (fun k hk => hsm k (by omega)) k1.1 (fun r a b => by rw [← k1.2 r a b])
  refine v_l2i C dX5_price_83 ?_
  refine v_iret C E dX5_price_84 (Or.inr ⟨K W, ⟨c0, c1, c2, c3⟩, K_isMx k1 hw1 (fun r hr => (hb r hr).1), ?_, l, sd, cu, re, pa, (_, bl', pc'), F, ok, hq, hs, ⟨?_, hN.2⟩, rfl⟩)
  · rw [lI_32 (hb W (Nat.le_refl W)).1]
  · show bl' 0 = 0
    rw [k2 0 (Nat.zero_le W), k1.1]
    rfl
end PRICE
section MPRICE
variable {c : Nat → PC} {W n : Nat} {w q : Nat → Nat} {Q : SQ} {D : Nat → Int32} {G : SG} {d : Nat}
set_option maxHeartbeats 8000000 in
set_option maxRecDepth 100000 in
theorem m_price (x0 x1 x2 x3 : Int32) (ok : MOk W n w q) (hd : 2 ≤ d) : Con yX6_price cX6_price 5 (some .int) d [.ref 22, .int x0, .int x1, .int x2, .int x3] (hM c (jJ W n w q) Q D G) (fun r h' => (¬ PriceOk x0 x1 x2 x3 ∧ r = some (.int (-1)) ∧ h' = hM c (jJ W n w q) Q D G) ∨ ∃ (m : Int) (D' : Nat → Int32), PriceOk x0 x1 x2 x3 ∧ IsMx W n w (pr4 x0 x1 x2 x3) m ∧ r = some (.int (nI m.toNat)) ∧ h' = hM c (jJ W n w q) Q D' G) := by
  obtain ⟨hn, hW, hW2, hw, hq⟩ := id ok
  refine con_of [(0, .ref 22), (1, .int x0), (2, .int x1), (3, .int x2), (4, .int x3)] (by decide) (fun _ => Nat.le_of_ble_eq_true rfl) (fun _ => rfl) (fun X C E => ?_)
  have no : ¬ PriceOk x0 x1 x2 x3 → V 5 X (hM c (jJ W n w q) Q D G) 42 [(0, .ref 22), (1, .int x0), (2, .int x1), (3, .int x2), (4, .int x3)] [] := by
    intro z
    refine v_iconst C (-1) dX6_price_42 (by decide) ?_
    exact v_iret C E dX6_price_43 (Or.inl ⟨z, rfl, rfl⟩)
  refine v_iload_n C dX6_price_0 rfl ?_
  refine v_if_lt C 42 dX6_price_1 (by decide) (fun a0 => ?_) (fun a0 => ?_)
  · exact no (fun z => z.1.1 a0)
  refine v_iload_n C dX6_price_4 rfl ?_
  refine v_if_lt C 42 dX6_price_5 (by decide) (fun a1 => ?_) (fun a1 => ?_)
  · exact no (fun z => z.2.1.1 a1)
  refine v_iload_n C dX6_price_8 rfl ?_
  refine v_if_lt C 42 dX6_price_9 (by decide) (fun a2 => ?_) (fun a2 => ?_)
  · exact no (fun z => z.2.2.1.1 a2)
  refine v_iload C dX6_price_12 rfl ?_
  refine v_if_lt C 42 dX6_price_14 (by decide) (fun a3 => ?_) (fun a3 => ?_)
  · exact no (fun z => z.2.2.2.1 a3)
  refine v_iload_n C dX6_price_17 rfl ?_
  refine v_ldc C (1000000) dX6_price_18 (by decide +kernel) ?_
  refine v_icmp_gt C 42 dX6_price_20 (by decide) (fun b0 => ?_) (fun b0 => ?_)
  · exact no (fun z => absurd z.1.2 (Int32.not_le.mpr b0))
  refine v_iload_n C dX6_price_23 rfl ?_
  refine v_ldc C (1000000) dX6_price_24 (by decide +kernel) ?_
  refine v_icmp_gt C 42 dX6_price_26 (by decide) (fun b1 => ?_) (fun b1 => ?_)
  · exact no (fun z => absurd z.2.1.2 (Int32.not_le.mpr b1))
  refine v_iload_n C dX6_price_29 rfl ?_
  refine v_ldc C (1000000) dX6_price_30 (by decide +kernel) ?_
  refine v_icmp_gt C 42 dX6_price_32 (by decide) (fun b2 => ?_) (fun b2 => ?_)
  · exact no (fun z => absurd z.2.2.1.2 (Int32.not_le.mpr b2))
  refine v_iload C dX6_price_35 rfl ?_
  refine v_ldc C (1000000) dX6_price_37 (by decide +kernel) ?_
  refine v_icmp_le C 44 dX6_price_39 (by decide) (fun b3 => ?_) (fun b3 => ?_)
  case refine_2 => exact no (fun z => b3 z.2.2.2.2)
  have c0 : ¬ x0 < 0 ∧ x0 ≤ 1000000 := ⟨a0, Int32.not_lt.mp b0⟩
  have c1 : ¬ x1 < 0 ∧ x1 ≤ 1000000 := ⟨a1, Int32.not_lt.mp b1⟩
  have c2 : ¬ x2 < 0 ∧ x2 ≤ 1000000 := ⟨a2, Int32.not_lt.mp b2⟩
  have c3 : ¬ x3 < 0 ∧ x3 ≤ 1000000 := ⟨a3, b3⟩
  have p0 := price_sm c0
  have p1 := price_sm c1
  have p2 := price_sm c2
  have p3 := price_sm c3
  have hw1 : ∀ k, k < n → 1 ≤ w k := fun k hk => (hw k hk).1
  have hsm : ∀ k, k < 4 → 0 ≤ pr4 x0 x1 x2 x3 k ∧ pr4 x0 x1 x2 x3 k ≤ 4503599627370496 := all4 ⟨p0.1, by show x0.toInt ≤ _; omega⟩ ⟨p1.1, by show x1.toInt ≤ _; omega⟩ ⟨p2.1, by show x2.toInt ≤ _; omega⟩ ⟨p3.1, by show x3.toInt ≤ _; omega⟩
  obtain ⟨pi, e, -⟩ := iN_of D 0 (fun _ => 0) (fun i hi => absurd hi (Nat.not_lt_zero i))
  refine v_aload_n C dX6_price_44 rfl ?_
  refine v_iload_n C dX6_price_45 rfl ?_
  refine v_i2l C dX6_price_46 ?_
  refine v_iload_n C dX6_price_47 rfl ?_
  refine v_i2l C dX6_price_48 ?_
  refine v_iload_n C dX6_price_49 rfl ?_
  refine v_i2l C dX6_price_50 ?_
  refine v_iload C dX6_price_51 rfl ?_
  refine v_i2l C dX6_price_53 ?_
  refine v_callV C dX6_price_54 lk_X6_96 (m_dear (d := 1) (pr4 x0 x1 x2 x3) pi hn hW2 (fun k hk => ⟨(hw k hk).1, Nat.le_trans (hw k hk).2 hW2⟩) hsm (fun k _ => by rw [e]; rfl) (by decide)) (by omega) rfl rfl rfl rfl rfl (Nat.le_of_ble_eq_true rfl) ?_
  rintro r h' ⟨rfl, D', hD', rfl⟩
  have hM := g1_isMx (W := W) (n := n) (w := w) (wo := pr4 x0 x1 x2 x3) (pi := pi) hn hw1 (fun k hk => (hsm k hk).1)
  have h0 : 0 ≤ (g1 W n w (pr4 x0 x1 x2 x3) (-1, pi)).1 := by
    have hps0 : ∀ n, ps w (fun _ => 0) n = 0 := fun n => by
      induction n with
      | zero => rfl
      | succ n ih => show ps w (fun _ => 0) n + 0 * w n = 0; rw [ih, Nat.zero_mul]
    have := hM.1.1 (fun _ => 0) (by rw [hps0]; exact Nat.zero_le _)
    rw [vl_zero n (fun _ _ => rfl)] at this
    exact this
  refine v_l2i C dX6_price_57 ?_
  refine v_iret C E dX6_price_58 (Or.inr ⟨_, D', ⟨c0, c1, c2, c3⟩, hM.1, ?_, rfl⟩)
  rw [lI_32 h0]
end MPRICE
