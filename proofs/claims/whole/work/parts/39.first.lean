/-! the reference's dearest pattern is extreme: it is the first of the greatest -/
def FMx (val : (Nat → Nat) → Int) (X : (Nat → Nat) → Prop) (S S' : Int × (Nat → Nat)) : Prop :=
  (S' = S ∧ ∀ y, X y → val y ≤ S.1) ∨ ∃ x, X x ∧ S' = (val x, x) ∧ S.1 < val x ∧ ∀ y, X y → val y < val x ∨ (val y = val x ∧ (LtX y x 4 ∨ ∀ k, k < 4 → y k = x k))
theorem fd_fm {val : (Nat → Nat) → Int} {f : Nat → Int × (Nat → Nat) → Int × (Nat → Nat)} {X : Nat → (Nat → Nat) → Prop} : ∀ (M : Nat), (∀ i S, i < M → FMx val (X i) S (f i S)) → (∀ i j x y, i < j → j < M → X i x → X j y → LtX x y 4) → ∀ S, FMx val (fun x => ∃ i, i < M ∧ X i x) S (fd f M S)
  | 0, _, _, S => Or.inl ⟨rfl, fun y hy => by obtain ⟨i, hi, _⟩ := hy; exact absurd hi (Nat.not_lt_zero i)⟩
  | M + 1, h, ho, S => by
    have ih := fd_fm (val := val) (f := f) (X := X) M (fun i S hi => h i S (by omega)) (fun i j x y a b => ho i j x y a (by omega)) (f M S)
    have h1 := h M S (by omega)
    show FMx val _ S (fd f M (f M S))
    rcases ih with ⟨e, g⟩ | ⟨x, ⟨i, hi, hx⟩, e, l, g⟩
    · rw [e]
      rcases h1 with ⟨e1, g1⟩ | ⟨z, hz, e1, l1, g1⟩
      · left
        refine ⟨e1, fun y hy => ?_⟩
        obtain ⟨j, hj, hy⟩ := hy
        by_cases c : j = M
        · subst c; exact g1 y hy
        · have := g y ⟨j, by omega, hy⟩
          rw [e1] at this
          exact this
      · right
        refine ⟨z, ⟨M, by omega, hz⟩, e1, l1, fun y hy => ?_⟩
        obtain ⟨j, hj, hy⟩ := hy
        by_cases c : j = M
        · subst c; exact g1 y hy
        · have h5 := g y ⟨j, by omega, hy⟩
          rw [e1] at h5
          have h6 : val y ≤ val z := h5
          by_cases c2 : val y = val z
          · exact Or.inr ⟨c2, Or.inl (ho j M y z (by omega) (by omega) hy hz)⟩
          · left; omega
    · right
      refine ⟨x, ⟨i, by omega, hx⟩, e, ?_, fun y hy => ?_⟩
      · rcases h1 with ⟨e1, g1⟩ | ⟨z, hz, e1, l1, g1⟩
        · rw [e1] at l; exact l
        · rw [e1] at l; exact Int.lt_trans l1 l
      · obtain ⟨j, hj, hy⟩ := hy
        by_cases c : j = M
        · subst c
          left
          rcases h1 with ⟨e1, g1⟩ | ⟨z, hz, e1, l1, g1⟩
          · rw [e1] at l; have := g1 y hy; omega
          · rw [e1] at l
            have l : val z < val x := l
            rcases g1 y hy with a | a <;> omega
        · exact g y ⟨j, by omega, hy⟩
section FIRST
variable {W n : Nat} {w : Nat → Nat} {wo : Nat → Int}
theorem g1_fm (S : Int × (Nat → Nat)) : FMx (fun x => vl wo x 4) (fun x => ∃ a, a < mo n w 0 W + 1 ∧ ∃ b, b < mo n w 1 (r1 W n w a) + 1 ∧ ∃ c, c < mo n w 2 (r2 W n w a b) + 1 ∧ x = vp4 W n w a b c) S (g1 W n w wo S) := by
  refine fd_fm (X := fun a x => ∃ b, b < mo n w 1 (r1 W n w a) + 1 ∧ ∃ c, c < mo n w 2 (r2 W n w a b) + 1 ∧ x = vp4 W n w a b c) _ (fun a S ha => ?_) ?_ S
  · refine fd_fm (X := fun b x => ∃ c, c < mo n w 2 (r2 W n w a b) + 1 ∧ x = vp4 W n w a b c) _ (fun b S hb => ?_) ?_ S
    · refine fd_fm (X := fun c x => x = vp4 W n w a b c) _ (fun c S hc => ?_) ?_ S
      · show FMx _ _ S (db W n w wo a b c S)
        unfold db
        split
        · rename_i h
          exact Or.inr ⟨_, rfl, rfl, h, fun y hy => Or.inr ⟨by rw [hy], Or.inr (fun k _ => by rw [hy])⟩⟩
        · rename_i h
          exact Or.inl ⟨rfl, fun y hy => by rw [hy]; exact Int.not_lt.mp h⟩
      · rintro i j x y hij _ rfl rfl
        exact ltx_of (j := 2) (fun k hk => by
          match k, hk with
          | 0, _ => rfl
          | 1, _ => rfl) hij 4 (by decide)
    · rintro i j x y hij _ ⟨c, _, rfl⟩ ⟨c', _, rfl⟩
      exact ltx_of (j := 1) (fun k hk => by
        match k, hk with
        | 0, _ => rfl) hij 4 (by decide)
  · rintro i j x y hij _ ⟨b, _, c, _, rfl⟩ ⟨b', _, c', _, rfl⟩
    exact ltx_of (j := 0) (fun k hk => absurd hk (Nat.not_lt_zero k)) hij 4 (by decide)
theorem ltx_tr {x y z : Nat → Nat} (h1 : LtX x y 4) (h2 : LtX y z 4) : LtX x z 4 := by
  obtain ⟨i, i1, i2, i3⟩ := ltx_ex 4 h1
  obtain ⟨j, j1, j2, j3⟩ := ltx_ex 4 h2
  rcases Nat.lt_trichotomy i j with c | c | c
  · exact ltx_of (j := i) (fun k hk => by rw [i2 k hk, j2 k (by omega)]) (by rw [← j2 i c]; exact i3) 4 i1
  · subst c
    exact ltx_of (j := i) (fun k hk => by rw [i2 k hk, j2 k hk]) (by omega) 4 i1
  · exact ltx_of (j := j) (fun k hk => by rw [i2 k (by omega), j2 k hk]) (by rw [i2 j c]; exact j3) 4 j1
/-- every pattern is worth less, or as much and not before it in ORDER -/
theorem g1_lex (hn : n ≤ 4) (hw : ∀ k, k < n → 1 ≤ w k) (hwo : ∀ k, k < 4 → 0 ≤ wo k) {pi : Nat → Nat} (p : Nat → Nat) (hz : ∀ k, n ≤ k → k < 4 → p k = 0) (hp : ps w p n ≤ W) (hv : vl wo p 4 = (g1 W n w wo (-1, pi)).1) : LtX p (g1 W n w wo (-1, pi)).2 4 ∨ ∀ k, k < 4 → p k = (g1 W n w wo (-1, pi)).2 k := by
  have hv0 : ∀ p : Nat → Nat, 0 ≤ vl wo p 4 := fun p => by
    show 0 ≤ 0 + (p 0 : Int) * wo 0 + (p 1 : Int) * wo 1 + (p 2 : Int) * wo 2 + (p 3 : Int) * wo 3
    have a0 := Int.mul_nonneg (Int.natCast_nonneg (p 0)) (hwo 0 (by decide))
    have a1 := Int.mul_nonneg (Int.natCast_nonneg (p 1)) (hwo 1 (by decide))
    have a2 := Int.mul_nonneg (Int.natCast_nonneg (p 2)) (hwo 2 (by decide))
    have a3 := Int.mul_nonneg (Int.natCast_nonneg (p 3)) (hwo 3 (by decide))
    omega
  rcases g1_fm (W := W) (n := n) (w := w) (wo := wo) (-1, pi) with ⟨e, g⟩ | ⟨x, hx, e, l, g⟩
  · exfalso
    have := g _ ⟨0, by omega, 0, by omega, 0, by omega, rfl⟩
    have h2 : vl wo (vp4 W n w 0 0 0) 4 ≤ -1 := this
    have := hv0 (vp4 W n w 0 0 0)
    omega
  · rw [e] at hv ⊢
    have hv : vl wo p 4 = vl wo x 4 := hv
    -- the enumeration's pattern above p
    have e1 : ps w p n = wt (qn n w) p := by
      have h1 : ps w p n = ps (qn n w) p n := ps_w n (Nat.le_refl n) (fun k hk => (if_pos hk).symm)
      rw [h1, ps_n hn hz]
    rw [e1] at hp
    have hp' : p 0 * qn n w 0 + p 1 * qn n w 1 + p 2 * qn n w 2 + p 3 * qn n w 3 ≤ W := hp
    have za : ∀ k, k < 4 → n ≤ k → p k = 0 := fun k h1 h2 => hz k h2 h1
    have ha : p 0 ≤ mo n w 0 W := le_mo hw (by omega) (za 0 (by omega))
    have hb : p 1 ≤ mo n w 1 (r1 W n w (p 0)) := le_mo hw (by unfold r1; omega) (za 1 (by omega))
    have hc : p 2 ≤ mo n w 2 (r2 W n w (p 0) (p 1)) := le_mo hw (by unfold r2 r1; omega) (za 2 (by omega))
    have he : p 3 ≤ mo n w 3 (r3 W n w (p 0) (p 1) (p 2)) := le_mo hw (by unfold r3 r2 r1; omega) (za 3 (by omega))
    have h1 := g (vp4 W n w (p 0) (p 1) (p 2)) ⟨p 0, by omega, p 1, by omega, p 2, by omega, rfl⟩
    have h2 : vl wo p 4 ≤ vl wo (vp4 W n w (p 0) (p 1) (p 2)) 4 := by
      show 0 + (p 0 : Int) * wo 0 + (p 1 : Int) * wo 1 + (p 2 : Int) * wo 2 + (p 3 : Int) * wo 3 ≤ 0 + (p 0 : Int) * wo 0 + (p 1 : Int) * wo 1 + (p 2 : Int) * wo 2 + ((mo n w 3 (r3 W n w (p 0) (p 1) (p 2)) : Nat) : Int) * wo 3
      have := Int.mul_le_mul_of_nonneg_right (a := (p 3 : Int)) (b := ((mo n w 3 (r3 W n w (p 0) (p 1) (p 2)) : Nat) : Int)) (c := wo 3) (by omega) (hwo 3 (by decide))
      omega
    have h3 : LtX p (vp4 W n w (p 0) (p 1) (p 2)) 4 ∨ ∀ k, k < 4 → p k = vp4 W n w (p 0) (p 1) (p 2) k := by
      by_cases c : p 3 = mo n w 3 (r3 W n w (p 0) (p 1) (p 2))
      · exact Or.inr (all4 rfl rfl rfl c)
      · refine Or.inl (ltx_of (j := 3) (fun k hk => ?_) (by show p 3 < mo n w 3 (r3 W n w (p 0) (p 1) (p 2)); omega) 4 (by decide))
        match k, hk with
        | 0, _ => rfl
        | 1, _ => rfl
        | 2, _ => rfl
    have h1 : vl wo (vp4 W n w (p 0) (p 1) (p 2)) 4 < vl wo x 4 ∨ (vl wo (vp4 W n w (p 0) (p 1) (p 2)) 4 = vl wo x 4 ∧ (LtX (vp4 W n w (p 0) (p 1) (p 2)) x 4 ∨ ∀ k, k < 4 → vp4 W n w (p 0) (p 1) (p 2) k = x k)) := h1
    rcases h1 with z | ⟨_, z⟩
    · omega
    · show LtX p x 4 ∨ ∀ k, k < 4 → p k = x k
      rcases h3 with a | a
      · rcases z with b | b
        · exact Or.inl (ltx_tr a b)
        · obtain ⟨j, j1, j2, j3⟩ := ltx_ex 4 a
          exact Or.inl (ltx_of (j := j) (fun k hk => by rw [j2 k hk, b k (by omega)]) (by rw [← b j j1]; exact j3) 4 j1)
      · rcases z with b | b
        · obtain ⟨j, j1, j2, j3⟩ := ltx_ex 4 b
          exact Or.inl (ltx_of (j := j) (fun k hk => by rw [a k (by omega), j2 k hk]) (by rw [a j j1]; exact j3) 4 j1)
        · exact Or.inr (fun k hk => by rw [a k hk, b k hk])
theorem g1_ext (hn : n ≤ 4) (hw : ∀ k, k < n → 1 ≤ w k) (hwo : ∀ k, k < 4 → 0 ≤ wo k) {pi : Nat → Nat} : Extp W n w (g1 W n w wo (-1, pi)).2 := by
  obtain ⟨⟨m1, _⟩, m2, m3, m4⟩ := g1_isMx (W := W) (n := n) (w := w) (wo := wo) hn hw hwo (pi := pi)
  generalize hg : g1 W n w wo (-1, pi) = R at *
  have hlex : ∀ u : Nat → Nat, ps w u n ≤ W → vl wo u n = R.1 → LtX (qn n u) R.2 4 ∨ ∀ k, k < 4 → qn n u k = R.2 k := by
    intro u hu hv
    have hz : ∀ k, n ≤ k → k < 4 → qn n u k = 0 := fun k h _ => if_neg (by omega)
    have hq : ∀ k, k < n → qn n u k = u k := fun k hk => if_pos hk
    have := g1_lex (W := W) (n := n) (w := w) (wo := wo) hn hw hwo (pi := pi) (qn n u) hz (by rw [ps_congr n (fun k hk => hq k hk)]; exact hu) (by rw [vl_4 hn hz, hg, ← hv]; exact vl_congr n (fun k hk => ⟨rfl, hq k hk⟩))
    rw [hg] at this
    exact this
  intro u v hu hv huv k hk
  have hsum : ∀ m, m ≤ n → vl wo u m + vl wo v m = 2 * vl wo R.2 m := by
    intro m
    induction m with
    | zero => intro _; rfl
    | succ m ih =>
      intro hm
      have i1 := ih (by omega)
      have e := huv m (by omega)
      show vl wo u m + (u m : Int) * wo m + (vl wo v m + (v m : Int) * wo m) = 2 * (vl wo R.2 m + ((R.2 m : Nat) : Int) * wo m)
      have e2 : (u m : Int) * wo m + (v m : Int) * wo m = 2 * (((R.2 m : Nat) : Int) * wo m) := by
        rw [← Int.add_mul, ← Int.mul_assoc]
        congr 1
        omega
      omega
  have s := hsum n (Nat.le_refl n)
  have a1 := m1 u hu
  have a2 := m1 v hv
  rw [m4] at s
  have c1 := hlex u hu (by omega)
  have c2 := hlex v hv (by omega)
  have hq : ∀ (x : Nat → Nat) k, k < n → qn n x k = x k := fun x k hk => if_pos hk
  have hq2 : ∀ k, k < 4 → qn n u k + qn n v k = 2 * R.2 k := fun k hk => by
    by_cases e : k < n
    · rw [hq u k e, hq v k e]; exact huv k e
    · rw [show qn n u k = 0 from if_neg e, show qn n v k = 0 from if_neg e, m2 k (by omega) hk]
  rcases c1 with c | c
  · exfalso
    obtain ⟨j, d1, d2, d3⟩ := ltx_ex 4 c
    rcases c2 with g | g
    · obtain ⟨i, g1, g2, g3⟩ := ltx_ex 4 g
      rcases Nat.lt_trichotomy i j with x | x | x
      · have := hq2 i (by omega); have := d2 i x; omega
      · subst x; have := hq2 i d1; omega
      · have := hq2 j d1; have := g2 j x; omega
    · have := hq2 j d1; have := g j d1; omega
  · rw [← hq u k hk]; exact c k (by omega)
end FIRST
