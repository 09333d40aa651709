/-! Floor.find ends: no basis comes twice -/
def EXp (W n : Nat) (w p : Nat → Nat) : Prop := Extp W n w p ∧ PT W n w p ∧ ∃ k, k < n ∧ p k ≠ 0
theorem fp_ex {W n : Nat} {w : Nat → Nat} (hn : n ≤ 4) (hW2 : W ≤ 60) (hw : ∀ k, k < n → 1 ≤ w k ∧ w k ≤ 60) : ∃ fp : (Nat → Nat) → Nat, (∀ p, EXp W n w p → fp p < 71) ∧ ∀ p p', EXp W n w p → EXp W n w p' → fp p = fp p' → ∀ k, k < n → p k = p' k := by
  have hz : ∀ k, 1 ≤ (if k < n then w k else 61) ∧ (if k < n then w k else 61) ≤ 61 := fun k => by
    split
    · rename_i h; have := hw k h; omega
    · omega
  have hG : GF W (fun k => if k < n then w k else 61) := gf_ext (w := m4 (if 0 < n then w 0 else 61) (if 1 < n then w 1 else 61) (if 2 < n then w 2 else 61) (if 3 < n then w 3 else 61)) (all4 rfl rfl rfl rfl) (gf_all hW2 (hz 0) (hz 1) (hz 2) (hz 3))
  have hps : ∀ u : Nat → Nat, (∀ k, n ≤ k → k < 4 → u k = 0) → ps (fun k => if k < n then w k else 61) u 4 = ps w u n := fun u hu => by
    have h1 := ps_zero (w := fun k => if k < n then w k else 61) (p := u) hu (4 - n) (by omega)
    rw [show n + (4 - n) = 4 by omega] at h1
    rw [h1]
    exact ps_w (n := n) n (Nat.le_refl n) (fun k hk => if_pos hk)
  have hE : ∀ p, EXp W n w p → EP W (fun k => if k < n then w k else 61) p := by
    intro p hp
    obtain ⟨hx, ⟨p1, p2, p3⟩, k, hk, hpk⟩ := hp
    refine ⟨fun u v hu hv huv j hj => ?_, by rw [hps p p2]; exact p3, ⟨k, by omega, hpk⟩, p1⟩
    have hu0 : ∀ k, n ≤ k → k < 4 → u k = 0 := fun k a b => by have := huv k b; have := p2 k a b; omega
    have hv0 : ∀ k, n ≤ k → k < 4 → v k = 0 := fun k a b => by have := huv k b; have := p2 k a b; omega
    by_cases e : j < n
    · exact hx u v (by rw [← hps u hu0]; exact hu) (by rw [← hps v hv0]; exact hv) (fun k hk => huv k (by omega)) j e
    · rw [hu0 j (by omega) hj, p2 j (by omega) hj]
  obtain ⟨f, f1, f2⟩ := hG
  exact ⟨f, fun p hp => f1 p (hE p hp), fun p p' hp hp' he k hk => f2 p p' (hE p hp) (hE p' hp') he k (by omega)⟩
def SS : Type := (Nat → Nat → Int) × Int × (Nat → Nat → Nat) × Int
def StOk (W n : Nat) (w q : Nat → Nat) (s : SS) : Prop := SI W n w q s.1 s.2.1 s.2.2.1 s.2.2.2 ∧ ∀ i, i < n → EXp W n w (s.2.2.1 i)
section CODES
variable {W n : Nat} {w q : Nat → Nat} {fp : (Nat → Nat) → Nat}
theorem st_ne (hn : n ≤ 4) (f2 : ∀ p p', EXp W n w p → EXp W n w p' → fp p = fp p' → ∀ k, k < n → p k = p' k) {s : SS} (hs : StOk W n w q s) : ∀ i j, i < n → j < n → i ≠ j → fp (s.2.2.1 i) ≠ fp (s.2.2.1 j) := by
  intro i j hi hj hne he
  have h := f2 _ _ (hs.2 i hi) (hs.2 j hj) he
  have hb : ∀ k, k < 4 → bv n s.2.2.1 i k = bv n s.2.2.1 j k := by
    intro k hk
    unfold bv
    rw [if_pos hi, if_pos hj]
    by_cases e : k < n
    · rw [h k e]
    · rw [(hs.1.2.2.2.2.2.2 i hi).2.1 k (by omega) hk, (hs.1.2.2.2.2.2.2 j hj).2.1 k (by omega) hk]
  have h1 := adj_self (bv n s.2.2.1) i (by omega)
  have h2 := adj_oth (bv n s.2.2.1) i (by omega) j (by omega) hne
  have h3 : dot4 (Adj (bv n s.2.2.1) i) (bv n s.2.2.1 i) = dot4 (Adj (bv n s.2.2.1) i) (bv n s.2.2.1 j) := by
    simp only [dot4]
    rw [hb 0 (by decide), hb 1 (by decide), hb 2 (by decide), hb 3 (by decide)]
  have hD := hs.1.2.2.1
  rw [hs.1.2.1, ← h1, h3, h2, Int.mul_zero] at hD
  omega
theorem st_same (hn : n ≤ 4) (f1 : ∀ p, EXp W n w p → fp p < 71) (f2 : ∀ p p', EXp W n w p → EXp W n w p' → fp p = fp p' → ∀ k, k < n → p k = p' k) {s t : SS} (hs : StOk W n w q s) (ht : StOk W n w q t) {c : Nat} (h1 : SCode n (fun i => fp (s.2.2.1 i)) c) (h2 : SCode n (fun i => fp (t.2.2.1 i)) c) : ¬ Zlt n t.1 t.2.1 s.1 s.2.1 := by
  have hm := scode_inj (fun i hi => ⟨f1 _ (hs.2 i hi), f1 _ (ht.2 i hi)⟩) h1 h2
  have hy : ∀ i, i < n → dotp (fun c => (fun k => csum s.1 (k + 1) n) (c - 1)) (t.2.2.1 i) n = s.2.1 := by
    intro i hi
    obtain ⟨j, hj, e⟩ := hm i hi
    have e2 := f2 _ _ (hs.2 j hj) (ht.2 i hi) e
    rw [← y_basis hn hs.1 hj]
    exact dotp_congr n (fun k hk => ⟨rfl, (e2 k hk).symm⟩)
  have hu := y_uniq hn ht.1 (y := fun k => csum s.1 (k + 1) n) hy
  have h0 : t.2.1 * csum s.1 0 n = s.2.1 * csum t.1 0 n := by
    rw [cost_vl hs.1, cost_vl ht.1]
    have key : ∀ m, m ≤ n → t.2.1 * vl (fun k => csum s.1 (k + 1) n) q m = s.2.1 * vl (fun k => csum t.1 (k + 1) n) q m := by
      intro m
      induction m with
      | zero => intro _; show t.2.1 * 0 = s.2.1 * 0; rw [Int.mul_zero, Int.mul_zero]
      | succ m ih =>
        intro hm
        show t.2.1 * (vl _ q m + (q m : Int) * csum s.1 (m + 1) n) = s.2.1 * (vl _ q m + (q m : Int) * csum t.1 (m + 1) n)
        have a := ih (by omega)
        have b : t.2.1 * csum s.1 (m + 1) n = s.2.1 * csum t.1 (m + 1) n := hu m (by omega)
        rw [Int.mul_add, Int.mul_add, a]
        congr 1
        rw [← Int.mul_assoc, ← Int.mul_assoc, Int.mul_comm t.2.1, Int.mul_comm s.2.1, Int.mul_assoc, Int.mul_assoc, b]
    exact key n (Nat.le_refl n)
  rintro ⟨c', c1, _, c3⟩
  have he : t.2.1 * csum s.1 c' n = s.2.1 * csum t.1 c' n := by
    by_cases e : c' = 0
    · rw [e]; exact h0
    · obtain ⟨k, rfl⟩ : ∃ k, c' = k + 1 := ⟨c' - 1, by omega⟩
      exact hu k (by omega)
  rw [Int.mul_comm (csum t.1 c' n), Int.mul_comm (csum s.1 c' n)] at c3
  omega
theorem st_bound (hn : n ≤ 4) (hW2 : W ≤ 60) (hw : ∀ k, k < n → 1 ≤ w k ∧ w k ≤ 60) (H : Nat → SS) (T : Nat) (h1 : ∀ t, t ≤ T → StOk W n w q (H t)) (h2 : ∀ s t, s < t → t ≤ T → Zlt n (H t).1 (H t).2.1 (H s).1 (H s).2.1) : T < 971635 := by
  obtain ⟨fp, f1, f2⟩ := fp_ex hn hW2 hw
  have hc : ∀ t, ∃ c, t ≤ T → c < 971635 ∧ SCode n (fun i => fp ((H t).2.2.1 i)) c := by
    intro t
    by_cases e : t ≤ T
    · obtain ⟨c, c1, c2⟩ := scode_ex hn (g := fun i => fp ((H t).2.2.1 i)) (fun i hi => f1 _ ((h1 t e).2 i hi)) (st_ne hn f2 (h1 t e))
      exact ⟨c, fun _ => ⟨c1, c2⟩⟩
    · exact ⟨0, fun z => absurd z e⟩
  obtain ⟨g, hg⟩ := Classical.axiomOfChoice hc
  have := php 971635 (T + 1) g (fun t ht => (hg t (by omega)).1) (fun s t hst ht he => by
    have a := (hg s (by omega)).2
    have b := (hg t (by omega)).2
    rw [he] at a
    exact st_same hn f1 f2 (h1 s (by omega)) (h1 t (by omega)) a b (h2 s t hst (by omega)))
  omega
/-- the history of a run of find -/
def Hist (W n : Nat) (w q : Nat → Nat) (t : Nat) (x : SS) : Prop := ∃ H : Nat → SS, H t = x ∧ (∀ s, s ≤ t → StOk W n w q (H s)) ∧ ∀ s s', s < s' → s' ≤ t → Zlt n (H s').1 (H s').2.1 (H s).1 (H s).2.1
theorem hist_step {t : Nat} {x y : SS} (h : Hist W n w q t x) (hy : StOk W n w q y) (hz : Zlt n y.1 y.2.1 x.1 x.2.1) : Hist W n w q (t + 1) y := by
  obtain ⟨H, e, h1, h2⟩ := h
  have hn : ∀ s, s ≤ t → (if s ≤ t then H s else y) = H s := fun s hs => if_pos hs
  have hl : (if t + 1 ≤ t then H (t + 1) else y) = y := if_neg (by omega)
  refine ⟨fun s => if s ≤ t then H s else y, hl, fun s hs => ?_, fun s s' hs hs' => ?_⟩
  · show StOk W n w q (if s ≤ t then H s else y)
    by_cases c : s ≤ t
    · rw [hn s c]; exact h1 s c
    · rw [if_neg c]; exact hy
  · show Zlt n (if s' ≤ t then H s' else y).1 (if s' ≤ t then H s' else y).2.1 (if s ≤ t then H s else y).1 (if s ≤ t then H s else y).2.1
    rw [hn s (by omega)]
    by_cases c : s' ≤ t
    · rw [hn s' c]; exact h2 s s' hs c
    · rw [if_neg c]
      by_cases c2 : s = t
      · rw [c2, e]; exact hz
      · have hz2 := h2 s t (by omega) (Nat.le_refl t)
        have p1 := (h1 t (Nat.le_refl t)).1.2.2.1
        have p2 := (h1 s (by omega)).1.2.2.1
        have p3 := hy.1.2.2.1
        rw [← e] at hz
        let Rs : Nat → Nat → Int := fun a c => if a = 0 then csum (H s).1 c n else if a = 1 then csum (H t).1 c n else csum y.1 c n
        let Ds : Nat → Int := fun a => if a = 0 then (H s).2.1 else if a = 1 then (H t).2.1 else y.2.1
        exact ub_trans (R := Rs) (s := Ds) (n := n) (j := 2) (i := 1) (o := 0) p1 p2 p3 hz hz2
end CODES
theorem si_congr {W n : Nat} {w q : Nat → Nat} {R R' : Nat → Nat → Int} {Dt σ : Int} {pt : Nat → Nat → Nat} (h : ∀ i c, i < n → c ≤ n → R i c = R' i c) (S : SI W n w q R Dt pt σ) : SI W n w q R' Dt pt σ := by
  obtain ⟨s1, s2, s3, s4, s5, s6, s7⟩ := S
  refine ⟨s1, s2, s3, fun i hi j hj => by rw [← h i _ hi (by omega)]; exact s4 i hi j hj, fun i hi => ?_, fun i hi => ?_, s7⟩
  · rw [← h i 0 hi (by omega), s5 i hi]
    exact dotp_congr n (fun k hk => ⟨h i _ hi (by omega), rfl⟩)
  · obtain ⟨c, c1, c2, c3⟩ := s6 i hi
    exact ⟨c, c1, fun c' hc' => by rw [← h i c' hi (by omega)]; exact c2 c' hc', by rw [← h i c hi c1]; exact c3⟩
theorem ext_pt0 {W n : Nat} {w : Nat → Nat} (hw : ∀ k, k < n → 1 ≤ w k ∧ w k ≤ W) {i : Nat} (hi : i < n) : Extp W n w (pt0 W w i) ∧ ∃ k, k < n ∧ pt0 W w i k ≠ 0 := by
  have hq : ∀ u : Nat → Nat, ps w u n ≤ W → u i ≤ W / w i := by
    intro u hu
    have key : ∀ m, i < m → u i * w i ≤ ps w u m := by
      intro m
      induction m with
      | zero => intro h; exact absurd h (Nat.not_lt_zero i)
      | succ m ih =>
        intro h
        show _ ≤ ps w u m + u m * w m
        by_cases e : i = m
        · subst e; omega
        · have := ih (by omega); omega
    have := key n hi
    exact (Nat.le_div_iff_mul_le (hw i hi).1).mpr (by omega)
  refine ⟨fun u v hu hv huv k hk => ?_, i, hi, ?_⟩
  · have h1 := huv k hk
    have h2 := hq u hu
    have h3 := hq v hv
    unfold pt0 at h1 ⊢
    by_cases e : k = i
    · subst e
      rw [if_pos rfl] at h1 ⊢
      omega
    · rw [if_neg e] at h1 ⊢
      omega
  · unfold pt0
    rw [if_pos rfl]
    have := Nat.div_pos (hw i hi).2 (hw i hi).1
    omega
theorem K_nn {W n : Nat} {w : Nat → Nat} {y K : Nat → Int} {KP : Nat → Int32} (hk : KOk W n w y K KP) : ∀ r, r ≤ W → 0 ≤ K r := by
  intro r
  induction r with
  | zero => intro _; rw [hk.1]; exact Int.le_refl 0
  | succ r ih =>
    intro h
    have h1 := ih (by omega)
    have h2 := K_mono hk (r + 1) (by omega) h
    have h3 : r + 1 - 1 = r := rfl
    rw [h3] at h2
    omega
theorem nI_ne1 {k : Nat} (h : k < 4) : ¬ nI k = -1 := fun z => by
  have h9 := congrArg Int32.toInt z
  rw [nI_toInt (by omega)] at h9
  have h8 : ((-1 : Int32)).toInt = -1 := rfl
  omega
section FIND
variable {W n : Nat} {w q : Nat → Nat} {Lf : Nat → Int32} {P : SP} {N : SN} {tl : List PC} {tp bt dt : Int64} {ρ : Nat → Nat → Int64} {en : Nat → Int32} {sh : Nat → Int64} {d : Nat}
set_option maxHeartbeats 8000000 in
set_option maxRecDepth 100000 in
theorem c_find (hn : n ≤ 4) (hW2 : W ≤ 60) (hw : ∀ k, k < n → 1 ≤ w k ∧ w k ≤ W) (hq : Cnt n q) (hbl : N.2.1 0 = 0) (hd : 3 ≤ d) : Con yX0_find cX0_find 3 none d [.ref 14] (hC (jJ W n w q) Lf P N (fF tp bt dt ρ en sh) tl) (fun r h' => r = none ∧ ∃ (N' : SN) (T B : Int) (dt' : Int64) (ρ' : Nat → Nat → Int64) (en' : Nat → Int32) (sh' : Nat → Int64), N'.2.1 0 = 0 ∧ IsFl W n w q T B ∧ h' = hC (jJ W n w q) Lf P N' (fF (lI T) (lI B) dt' ρ' en' sh') tl) := by
  refine con_of [(0, .ref 14)] (by decide) (fun _ => Nat.le_of_ble_eq_true rfl) (fun _ => rfl) (fun X C E => ?_)
  have hw60 : ∀ k, k < n → 1 ≤ w k ∧ w k ≤ 60 := fun k hk => by have := hw k hk; omega
  have fin : ∀ (t : Nat) (N : SN) (ρ : Nat → Nat → Int64) (en : Nat → Int32) (sh : Nat → Int64) (R : Nat → Nat → Int) (Dt σ : Int) (pt : Nat → Nat → Nat) (K : Nat → Int) (KP : Nat → Int32), N.2.1 0 = 0 → SI W n w q R Dt pt σ → (∀ i j, i < n → j < 5 → ρ i j = lI (R i j)) → KOk W n w (fun k => csum R (k + 1) n) K KP → K W ≤ Dt → V 3 X (hC (jJ W n w q) Lf P N (fF tp bt (lI Dt) ρ en sh) tl) 43 [(0, .ref 14), (1, .int (nI t))] [] := by
    intro t N ρ en sh R Dt σ pt K KP hbl S hR hK hle
    have hcn := cost_nonneg S
    have hDp := S.2.2.1
    obtain ⟨r1, r2, r3⟩ := si_R hn hq S
    have hcb := (csum_sm (R := R) (c := 0) (A := 33554432) (by decide) hn (fun i hi => r1 i 0 hi (Nat.zero_le n))).2
    obtain ⟨cs, hcs⟩ := Int.eq_ofNat_of_zero_le hcn
    obtain ⟨D, hD⟩ := Int.eq_ofNat_of_zero_le (Int.le_of_lt hDp)
    refine v_aload_n C dX0_find_43 rfl ?_
    refine v_callV C dX0_find_44 lk_X0_58 (c_reduce (d := 1) (R := R) cs D hcs (by omega) (by rw [hD]) (by omega) (by omega) hn (fun i hi => hR i 0 hi (by decide)) (by decide)) (by omega) rfl rfl rfl rfl rfl (Nat.le_of_ble_eq_true rfl) ?_
    rintro o h' ⟨rfl, rfl⟩
    refine v_vret C E dX0_find_47 ⟨rfl, N, _, _, _, ρ, en, sh, hbl, si_fl hn hq S (fun p hp => ?_) hcs hD, rfl⟩
    have := K_max hK (fun k hk => (hw k hk).1) (K_nn hK) (sn p n) W p rfl (Nat.le_refl W) hp
    omega
  have loop : ∀ (m t : Nat) (N : SN) (ρ : Nat → Nat → Int64) (en : Nat → Int32) (sh : Nat → Int64) (R : Nat → Nat → Int) (Dt σ : Int) (pt : Nat → Nat → Nat), t + m = 1000000 → N.2.1 0 = 0 → Hist W n w q t (R, Dt, pt, σ) → (∀ i j, i < n → j < 5 → ρ i j = lI (R i j)) → V 3 X (hC (jJ W n w q) Lf P N (fF tp bt (lI Dt) ρ en sh) tl) 6 [(0, .ref 14), (1, .int (nI t))] [] := by
    intro m
    induction m with
    | zero =>
      intro t N ρ en sh R Dt σ pt ht _ hH _
      exfalso
      obtain ⟨H, _, h1, h2⟩ := hH
      have := st_bound hn hW2 hw60 H t h1 h2
      omega
    | succ m ih =>
      intro t N ρ en sh R Dt σ pt ht hbl hH hR
      have hst : StOk W n w q (R, Dt, pt, σ) := by
        obtain ⟨H, e, h1, _⟩ := hH
        rw [← e]
        exact h1 t (Nat.le_refl t)
      have S : SI W n w q R Dt pt σ := hst.1
      obtain ⟨wl, bl, pc⟩ := N
      obtain ⟨r1, r2, r3⟩ := si_R hn hq S
      have hDp := S.2.2.1
      have hcmp : ¬ (1000000 : Int32) ≤ nI t := by
        have := nI_ge (a := t) (b := 1000000) (by omega) (by omega)
        exact this
      refine v_iload_n C dX0_find_6 rfl ?_
      refine v_ldc C (1000000) dX0_find_7 (by decide +kernel) ?_
      refine v_icmp_ge C 43 dX0_find_9 (by decide) (fun q => absurd q (hcmp)) (fun _ => ?_)
      refine v_aload_n C dX0_find_12 rfl ?_
      refine v_callV C dX0_find_13 lk_X0_46 (c_findCheaper (d := 2) (R := R) Dt hn hW2 hw60 hR (si_y hn hq S) (by unfold Sm; omega) rfl hbl (by decide)) (by omega) rfl rfl rfl rfl rfl (Nat.le_of_ble_eq_true rfl) ?_
      rintro o h' ⟨N', K, KP, hbl', hK, hc⟩
      rcases hc with ⟨rfl, hle, rfl⟩ | ⟨rfl, hgt, e, sh', he, hsh, rfl⟩
      · refine v_if_eq C 43 dX0_find_16 (by decide) (fun _ => ?_) (fun q => absurd (rfl) q)
        exact fin t N' ρ en sh R Dt σ pt K KP hbl' S hR hK hle
      · refine v_if_eq C 43 dX0_find_16 (by decide) (fun q => absurd q ((by decide))) (fun _ => ?_)
        have hw1 : ∀ k, k < n → 1 ≤ w k := fun k hk => (hw k hk).1
        have htv := tr_val hn hK hw1 60 W hW2 (Nat.le_refl W)
        have htx := tr_ext hn hK hw1 (K_nn hK) W 60 hW2 (Nat.le_refl W) rfl
        have he60 : ∀ k, k < 4 → e k ≤ 60 := by
          intro k hk
          rw [he k hk]
          have key : ∀ (f r : Nat) (acc : Nat → Nat), ta w KP f r acc k ≤ acc k + f := by
            intro f
            induction f with
            | zero => intro r acc; exact Nat.le_refl _
            | succ f ih =>
              intro r acc
              unfold ta
              split
              · omega
              · split
                · have := ih (r - 1) acc; omega
                · have h8 := ih (r - w (KP r).toNatClampNeg) (va_up acc (KP r).toNatClampNeg (acc (KP r).toNatClampNeg + 1))
                  have h9 : va_up acc (KP r).toNatClampNeg (acc (KP r).toNatClampNeg + 1) k ≤ acc k + 1 := by
                    unfold va_up
                    split
                    · rename_i e9; rw [e9]; exact Nat.le_refl _
                    · exact Nat.le_succ _
                  omega
          have h7 := key 60 W (fun _ => 0)
          have h6 : (fun _ : Nat => (0 : Nat)) k = 0 := rfl
          omega
        have hps : ps w e n = ps w (ta w KP 60 W (fun _ => 0)) n := ps_congr n (fun k hk => he k (by omega))
        have hPT : PT W n w e := ⟨he60, fun k a b => by rw [he k b]; exact htv.1 k a, by rw [hps]; exact htv.2.1⟩
        have hvl : vl (fun k => csum R (k + 1) n) e n = K W := by
          rw [← htv.2.2]
          exact vl_congr n (fun k hk => ⟨rfl, he k (by omega)⟩)
        have hEX : EXp W n w e := by
          refine ⟨fun u v hu hv huv k hk => ?_, hPT, ?_⟩
          · rw [he k (by omega)]
            exact htx u v hu hv (fun k hk => by rw [huv k hk, he k (by omega)]) k hk
          · apply Classical.byContradiction
            intro hno
            have : vl (fun k => csum R (k + 1) n) e n = 0 := vl_zero n (fun k hk => Classical.byContradiction (fun z => hno ⟨k, hk, z⟩))
            omega
        have hss := si_s hn S hPT
        have hsum : ssum (fun i => dotp (R i) e n) n = K W := by
          rw [ssum_dotp, ← hvl, ← dotp_vl]
          exact dotp_congr n (fun k _ => ⟨rfl, rfl⟩)
        refine v_aload_n C dX0_find_19 rfl ?_
        refine v_callV C dX0_find_20 lk_X0_50 (c_rowToLeave (d := 1) (R := R) (fun i => dotp (R i) e n) hn hR r1 hsh hss (by decide)) (by omega) rfl rfl rfl rfl rfl (Nat.le_of_ble_eq_true rfl) ?_
        rintro o h' ⟨hc, rfl⟩
        rcases hc with ⟨rfl, hno⟩ | ⟨l, rfl, hl, hsl, hmin⟩
        · exfalso
          have : ∀ m, m ≤ n → ssum (fun i => dotp (R i) e n) m ≤ 0 := by
            intro m
            induction m with
            | zero => intro _; exact Int.le_refl 0
            | succ m ih =>
              intro hm
              have h1 := ih (by omega)
              have h2 := hno m (by omega)
              show ssum _ m + dotp (R m) e n ≤ 0
              omega
          have := this n (Nat.le_refl n)
          omega
        · refine v_istore_n C dX0_find_23 (by decide) ?_
          refine v_iload_n C dX0_find_24 rfl ?_
          refine v_iconst C (-1) dX0_find_25 (by decide) ?_
          refine v_icmp_ne C 32 dX0_find_26 (by decide) (fun _ => ?_) (fun q => absurd q ((nI_ne1 (by omega))))
          refine v_aload_n C dX0_find_32 rfl ?_
          refine v_iload_n C dX0_find_33 rfl ?_
          refine v_callV C dX0_find_34 lk_X0_54 (c_exchange (d := 0) (R := R) (fun i => dotp (R i) e n) Dt l hl hn (fun i j a b => hR i j a (by omega)) r1 hsh hss rfl hDp r3) (by omega) rfl rfl rfl rfl rfl (Nat.le_of_ble_eq_true rfl) ?_
          rintro o h' ⟨rfl, ρ', hρ, rfl⟩
          refine v_iinc C dX0_find_37 rfl (nI_1 t) (by decide) ?_
          refine v_goto C 6 dX0_find_40 (by decide) ?_
          have S' := si_step hn S hPT hl hsl hmin
          have hz := z_falls hn S hPT hl (by rw [hsum]; exact hgt)
          have hRR : ∀ i c, i < n → c ≤ n → exR R (fun i => dotp (R i) e n) Dt l i c = (fun i c => if c ≤ n then exR R (fun i => dotp (R i) e n) Dt l i c else (ρ' i c).toInt) i c := fun i c _ hc => (if_pos hc).symm
          refine v_keep [0, 1] (ih (t + 1) N' ρ' (iN e) sh' (fun i c => if c ≤ n then exR R (fun i => dotp (R i) e n) Dt l i c else (ρ' i c).toInt) (dotp (R l) e n) σ (va_up pt l e) (by omega) hbl' ?_ ?_)
          · refine hist_step hH ⟨si_congr hRR S', fun i hi => ?_⟩ ?_
            · show EXp W n w (va_up pt l e i)
              unfold va_up
              split
              · exact hEX
              · exact hst.2 i hi
            · obtain ⟨c, c1, c2, c3⟩ := hz
              have hcs : ∀ c, c ≤ n → csum (fun i c => if c ≤ n then exR R (fun i => dotp (R i) e n) Dt l i c else (ρ' i c).toInt) c n = csum (exR R (fun i => dotp (R i) e n) Dt l) c n := fun c hc => csum_congr n (fun i hi => (hRR i c hi hc).symm)
              exact ⟨c, c1, fun c' hc' => by show csum _ c' n * Dt = _; rw [hcs c' (by omega)]; exact c2 c' hc', by show csum _ c n * Dt < _; rw [hcs c c1]; exact c3⟩
          · intro i j hi hj
            show ρ' i j = lI (if j ≤ n then exR R (fun i => dotp (R i) e n) Dt l i j else (ρ' i j).toInt)
            by_cases c : j ≤ n
            · rw [if_pos c]; exact hρ i j hi c
            · rw [if_neg c]; exact lI_of _
  refine v_aload_n C dX0_find_0 rfl ?_
  refine v_callV C dX0_find_1 lk_X0_42 (c_start (d := 1) hn hW2 hw hq.1 (by decide)) (by omega) rfl rfl rfl rfl rfl (Nat.le_of_ble_eq_true rfl) ?_
  rintro o h' ⟨rfl, ρ', hρ, rfl⟩
  refine v_iconst C (0) dX0_find_4 (by decide) ?_
  refine v_istore_n C dX0_find_5 (by decide) ?_
  refine loop 1000000 0 N ρ' en sh (R0 W n w q) ((pdW W w n : Nat) : Int) 1 (pt0 W w) (by omega) hbl ?_ hρ
  have S0 := si_0 (q := q) hn hW2 hw
  exact ⟨fun _ => (R0 W n w q, ((pdW W w n : Nat) : Int), pt0 W w, 1), rfl, fun s _ => ⟨S0, fun i hi => ⟨(ext_pt0 hw hi).1, S0.2.2.2.2.2.2 i hi, (ext_pt0 hw hi).2⟩⟩, fun s s' a b => absurd a (by omega)⟩
end FIND
