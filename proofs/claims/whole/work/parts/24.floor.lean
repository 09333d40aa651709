/-! Floor's small methods -/
def fF (tp bt dt : Int64) (ρ : Nat → Nat → Int64) (en : Nat → Int32) (sh : Nat → Int64) : SF := (tp, bt, dt, (ρ 0, ρ 1, ρ 2, ρ 3), en, sh)
section FL0
variable {J : SJ} {Lf : Nat → Int32} {P : SP} {N : SN} {tl : List PC} {tp bt dt : Int64} {ρ : Nat → Nat → Int64} {en : Nat → Int32} {sh : Nat → Int64}
theorem rowF_at : ∀ i, i < 4 → rowF i = some (16 + i) := all4 rfl rfl rfl rfl
theorem row_get : ∀ i, i < 4 → (hC J Lf P N (fF tp bt dt ρ en sh) tl)[16 + i]? = some (pL 5 (ρ i)) := all4 rfl rfl rfl rfl
theorem row_set (f : Nat → Int64) : ∀ i, i < 4 → (hC J Lf P N (fF tp bt dt ρ en sh) tl).set (16 + i) (pL 5 f) = hC J Lf P N (fF tp bt dt (va_up ρ i f) en sh) tl := all4 rfl rfl rfl rfl
end FL0
theorem smN {x b : Nat} (h : x ≤ b) (hb : b ≤ 4611686018427387904) : Sm L62 (x : Int) := by
  unfold Sm L62
  omega
theorem posN {x : Nat} (h : 0 < x) : (0 : Int) < (x : Int) := by omega
def csum (R : Nat → Nat → Int) (c : Nat) : Nat → Int
  | 0 => 0
  | i + 1 => csum R c i + R i c
def dotp (r : Nat → Int) (e : Nat → Nat) : Nat → Int
  | 0 => 0
  | k + 1 => dotp r e k + r (k + 1) * (e k : Int)
/-- the product of how many of each kind fit on a roll -/
def pdW (W : Nat) (w : Nat → Nat) : Nat → Nat
  | 0 => 1
  | k + 1 => pdW W w k * (W / w k)
def R0 (W n : Nat) (w q : Nat → Nat) (i j : Nat) : Int := if j = i + 1 then ((pdW W w n / (W / w i) : Nat) : Int) else if j = 0 then ((q i * (pdW W w n / (W / w i)) : Nat) : Int) else 0
theorem pdW_pos {W n : Nat} {w : Nat → Nat} (hw : ∀ k, k < n → 1 ≤ w k ∧ w k ≤ W) : ∀ k, k ≤ n → 0 < pdW W w k
  | 0, _ => Nat.zero_lt_one
  | k + 1, h => Nat.mul_pos (pdW_pos hw k (by omega)) (Nat.div_pos (hw k (by omega)).2 (hw k (by omega)).1)
theorem pdW_le {W n : Nat} {w : Nat → Nat} (hn : n ≤ 4) (hW2 : W ≤ 60) : pdW W w n ≤ 12960000 := by
  have h : ∀ k, W / w k ≤ 60 := fun k => Nat.le_trans (Nat.div_le_self _ _) hW2
  have key : ∀ k, pdW W w k ≤ 60 ^ k := by
    intro k
    induction k with
    | zero => exact Nat.le_refl _
    | succ k ih => exact Nat.mul_le_mul ih (h k)
  have h2 := key n
  have h3 : 60 ^ n ≤ 60 ^ 4 := Nat.pow_le_pow_right (by decide) hn
  have h4 : (60 : Nat) ^ 4 = 12960000 := by decide
  omega
section FLOOR
variable {W n : Nat} {w q : Nat → Nat} {Lf : Nat → Int32} {P : SP} {N : SN} {tl : List PC} {d : Nat} {tp bt dt : Int64} {ρ : Nat → Nat → Int64} {en : Nat → Int32} {sh : Nat → Int64} {R : Nat → Nat → Int}
set_option maxHeartbeats 4000000 in
set_option maxRecDepth 100000 in
/-- Arrays.fill(long[], long) -/
theorem c_fillL (d : Nat) (k n : Nat) (f : Nat → Int64) (x : Int64) (h : List PC) (ho : h[k]? = some (pL n f)) (hn : n < 2 ^ 31) : Con yJ7_fill_d0a16 cJ7_fill_d0a16 5 none d [.ref k, .long x] h (fun r h' => r = none ∧ ∃ f', (∀ i, i < n → f' i = x) ∧ h' = h.set k (pL n f')) := by
  refine con_of [(0, .ref k), (1, .long x)] (by decide) (fun _ => Nat.le_of_ble_eq_true rfl) (fun _ => rfl) (fun X C E => ?_)
  have key : ∀ (m i : Nat) (g : Nat → Int64), i + m = n → (∀ j, j < i → g j = x) → V 5 X (h.set k (pL n g)) 6 [(0, .ref k), (1, .long x), (3, .int (nI i)), (4, .int (nI n))] [] := by
    intro m
    induction m with
    | zero =>
      intro i g hi hg
      refine v_iload_n C dJ7_fill_d0a16_6 rfl ?_
      refine v_iload C dJ7_fill_d0a16_7 rfl ?_
      refine v_icmp_ge C 22 dJ7_fill_d0a16_9 (by decide) (fun _ => ?_) (fun q => absurd (nI_le (by omega) (by omega)) q)
      exact v_vret C E dJ7_fill_d0a16_22 ⟨rfl, g, fun j hj => hg j (by omega), rfl⟩
    | succ m ih =>
      intro i g hi hg
      refine v_iload_n C dJ7_fill_d0a16_6 rfl ?_
      refine v_iload C dJ7_fill_d0a16_7 rfl ?_
      refine v_icmp_ge C 22 dJ7_fill_d0a16_9 (by decide) (fun q => absurd q (nI_ge (by omega) (by omega))) (fun _ => ?_)
      refine v_aload_n C dJ7_fill_d0a16_12 rfl ?_
      refine v_iload_n C dJ7_fill_d0a16_13 rfl ?_
      refine v_lload_n C dJ7_fill_d0a16_14 rfl ?_
      refine v_last C i dJ7_fill_d0a16_15 (set_at ho) rfl (by omega) hn ?_
      refine v_iinc C dJ7_fill_d0a16_16 rfl (nI_1 i) (by decide) ?_
      refine v_goto C 6 dJ7_fill_d0a16_19 (by decide) ?_
      refine v_eq (ih (i + 1) (vp_updL g i x) (by omega) (fun j hj => ?_)) (set_set _ _ _ _)
      unfold vp_updL
      by_cases e : j = i
      · rw [if_pos e]
      · rw [if_neg e]
        exact hg j (by omega)
  refine v_iconst C (0) dJ7_fill_d0a16_0 (by decide) ?_
  refine v_istore_n C dJ7_fill_d0a16_1 (by decide) ?_
  refine v_aload_n C dJ7_fill_d0a16_2 rfl ?_
  refine v_llen C dJ7_fill_d0a16_3 ho ?_
  refine v_istore C dJ7_fill_d0a16_4 (by decide) ?_
  exact v_eq (key n 0 f (Nat.zero_add n) (fun j hj => absurd hj (Nat.not_lt_zero j))) (set_self ho).symm
set_option maxHeartbeats 4000000 in
set_option maxRecDepth 100000 in
theorem c_columnSum (c : Nat) (hc : c < 5) (hn : n ≤ 4) (hR : ∀ i, i < n → ρ i c = lI (R i c)) : Con yX0_columnSum cX0_columnSum 5 (some .long) d [.ref 14, .int (nI c)] (hC (jJ W n w q) Lf P N (fF tp bt dt ρ en sh) tl) (fun r h' => r = some (.long (lI (csum R c n))) ∧ h' = hC (jJ W n w q) Lf P N (fF tp bt dt ρ en sh) tl) := by
  refine con_of [(0, .ref 14), (1, .int (nI c))] (by decide) (fun _ => Nat.le_of_ble_eq_true rfl) (fun _ => rfl) (fun X C E => ?_)
  have key : ∀ (m i : Nat), i + m = n → V 5 X (hC (jJ W n w q) Lf P N (fF tp bt dt ρ en sh) tl) 5 [(0, .ref 14), (1, .int (nI c)), (2, .long (lI (csum R c i))), (4, .int (nI i))] [] := by
    intro m
    induction m with
    | zero =>
      intro i hi
      obtain rfl : i = n := by omega
      refine v_iload C dX0_columnSum_5 rfl ?_
      refine v_aload_n C dX0_columnSum_7 rfl ?_
      refine v_get C dX0_columnSum_8 fl_X0_34 rfl rfl ?_
      refine v_get C dX0_columnSum_11 fl_X0_61 rfl rfl ?_
      refine v_icmp_ge C 35 dX0_columnSum_14 (by decide) (fun _ => ?_) (fun q => absurd (nI_le (Nat.le_refl _) (by omega)) q)
      refine v_lload_n C dX0_columnSum_35 rfl ?_
      exact v_lret C E dX0_columnSum_36 ⟨rfl, rfl⟩
    | succ m ih =>
      intro i hi
      refine v_iload C dX0_columnSum_5 rfl ?_
      refine v_aload_n C dX0_columnSum_7 rfl ?_
      refine v_get C dX0_columnSum_8 fl_X0_34 rfl rfl ?_
      refine v_get C dX0_columnSum_11 fl_X0_61 rfl rfl ?_
      refine v_icmp_ge C 35 dX0_columnSum_14 (by decide) (fun q => absurd q (nI_ge (by omega) (by omega))) (fun _ => ?_)
      refine v_lload_n C dX0_columnSum_17 rfl ?_
      refine v_aload_n C dX0_columnSum_18 rfl ?_
      refine v_get C dX0_columnSum_19 fl_X0_20 rfl rfl ?_
      refine v_iload C dX0_columnSum_22 rfl ?_
      refine v_aald C i dX0_columnSum_24 rfl rfl (by omega) (by decide) (rowF_at i (by omega)) ?_
      refine v_iload_n C dX0_columnSum_25 rfl ?_
      refine v_lald C c dX0_columnSum_26 (row_get i (by omega)) rfl hc (by decide) ?_
      refine v_ladd C dX0_columnSum_27 ?_
      refine v_lstore_n C dX0_columnSum_28 (by decide) ?_
      refine v_iinc C dX0_columnSum_29 rfl (nI_1 i) (by decide) ?_
      refine v_goto C 5 dX0_columnSum_32 (by decide) ?_
      refine v_eq (ih (i + 1) (by omega)) rfl rfl ?_ rfl
      show [(0, Value.ref 14), (1, .int (nI c)), (2, .long (lI (csum R c i) + ρ i c)), (4, .int (nI (i + 1)))] = _
      rw [hR i (by omega), lI_add]
      rfl
  refine v_lconst C (0) dX0_columnSum_0 (by decide) ?_
  refine v_lstore_n C dX0_columnSum_1 (by decide) ?_
  refine v_iconst C (0) dX0_columnSum_2 (by decide) ?_
  refine v_istore C dX0_columnSum_3 (by decide) ?_
  exact key n 0 (by omega)
set_option maxHeartbeats 8000000 in
set_option maxRecDepth 100000 in
theorem c_start (hn : n ≤ 4) (hW2 : W ≤ 60) (hw : ∀ k, k < n → 1 ≤ w k ∧ w k ≤ W) (hq : ∀ k, k < 4 → q k ≤ 6) (hd : 1 ≤ d) : Con yX0_start cX0_start 2 none d [.ref 14] (hC (jJ W n w q) Lf P N (fF tp bt dt ρ en sh) tl) (fun r h' => r = none ∧ ∃ ρ', (∀ i j, i < n → j < 5 → ρ' i j = lI (R0 W n w q i j)) ∧ h' = hC (jJ W n w q) Lf P N (fF tp bt (lI (pdW W w n)) ρ' en sh) tl) := by
  have hpd := pdW_le (w := w) hn hW2
  have hdv : ∀ k, k < n → nI W / nI (w k) = nI (W / w k) := fun k hk => nI_dv (by omega) (hw k hk).1 (by have := hw k hk; omega)
  have hdl : ∀ k, W / w k ≤ 60 := fun k => Nat.le_trans (Nat.div_le_self _ _) hW2
  have hdp : ∀ k, k < n → 0 < W / w k := fun k hk => Nat.div_pos (hw k hk).2 (hw k hk).1
  refine con_of [(0, .ref 14)] (by decide) (fun _ => Nat.le_of_ble_eq_true rfl) (fun _ => rfl) (fun X C E => ?_)
  have second : ∀ (m i : Nat) (ρ : Nat → Nat → Int64), i + m = n → (∀ k j, k < i → j < 5 → ρ k j = lI (R0 W n w q k j)) → V 2 X (hC (jJ W n w q) Lf P N (fF tp bt (lI (pdW W w n)) ρ en sh) tl) 53 [(0, .ref 14), (1, .int (nI i))] [] := by
    intro m
    induction m with
    | zero =>
      intro i ρ hi h1
      obtain rfl : i = n := by omega
      refine v_iload_n C dX0_start_53 rfl ?_
      refine v_aload_n C dX0_start_54 rfl ?_
      refine v_get C dX0_start_55 fl_X0_34 rfl rfl ?_
      refine v_get C dX0_start_58 fl_X0_61 rfl rfl ?_
      refine v_icmp_ge C 142 dX0_start_61 (by decide) (fun _ => ?_) (fun q => absurd (nI_le (Nat.le_refl _) (by omega)) q)
      exact v_vret C E dX0_start_142 ⟨rfl, ρ, h1, rfl⟩
    | succ m ih =>
      intro i ρ hi h1
      have hi4 : i < 4 := by omega
      refine v_iload_n C dX0_start_53 rfl ?_
      refine v_aload_n C dX0_start_54 rfl ?_
      refine v_get C dX0_start_55 fl_X0_34 rfl rfl ?_
      refine v_get C dX0_start_58 fl_X0_61 rfl rfl ?_
      refine v_icmp_ge C 142 dX0_start_61 (by decide) (fun q => absurd q (nI_ge (by omega) (by omega))) (fun _ => ?_)
      refine v_aload_n C dX0_start_64 rfl ?_
      refine v_get C dX0_start_65 fl_X0_20 rfl rfl ?_
      refine v_iload_n C dX0_start_68 rfl ?_
      refine v_aald C i dX0_start_69 rfl rfl hi4 (by decide) (rowF_at i hi4) ?_
      refine v_lconst C (0) dX0_start_70 (by decide) ?_
      refine v_callS C dX0_start_71 lk_X0_73 (c_fillL 0 (16 + i) 5 (ρ i) 0 _ (row_get i hi4) (by decide)) hd rfl rfl (Nat.le_of_ble_eq_true rfl) ?_
      rintro r h' ⟨rfl, f, hf, rfl⟩
      rw [row_set f i hi4]
      have fi : va_up ρ i f i = f := if_pos rfl
      refine v_aload_n C dX0_start_74 rfl ?_
      refine v_get C dX0_start_75 fl_X0_20 rfl rfl ?_
      refine v_iload_n C dX0_start_78 rfl ?_
      refine v_aald C i dX0_start_79 rfl rfl hi4 (by decide) (rowF_at i hi4) ?_
      refine v_iload_n C dX0_start_80 rfl ?_
      refine v_iconst C (1) dX0_start_81 (by decide) ?_
      refine v_iadd C dX0_start_82 ?_
      refine v_aload_n C dX0_start_83 rfl ?_
      refine v_get C dX0_start_84 fl_X0_23 rfl rfl ?_
      refine v_aload_n C dX0_start_87 rfl ?_
      refine v_get C dX0_start_88 fl_X0_34 rfl rfl ?_
      refine v_get C dX0_start_91 fl_X0_67 rfl rfl ?_
      refine v_aload_n C dX0_start_94 rfl ?_
      refine v_get C dX0_start_95 fl_X0_34 rfl rfl ?_
      refine v_get C dX0_start_98 fl_X0_70 rfl rfl ?_
      refine v_iload_n C dX0_start_101 rfl ?_
      refine v_iald C i dX0_start_102 rfl rfl hi4 (by decide) ?_
      refine v_idiv C dX0_start_103 (nI_ne0 (hw i (by omega)).1 (by have := hw i (by omega); omega)) ?_
      refine v_i2l C dX0_start_104 ?_
      have e1 : (nI W / nI (w i)).toInt64 = lI ((W / w i : Nat) : Int) := by rw [hdv i (by omega), nI_lI (by have := hdl i; omega)]
      have hne : ¬ (nI W / nI (w i)).toInt64 = 0 := by
        rw [e1, show (0 : Int64) = lI 0 from rfl, lI_eq (smN (hdl i) (by decide)) (by unfold Sm L62; omega)]
        have h9 := posN (hdp i (by omega))
        exact fun z => by rw [z] at h9; exact absurd h9 (by decide)
      refine v_ldiv C dX0_start_105 hne ?_
      have e2 : lI ((pdW W w n : Nat) : Int) / (nI W / nI (w i)).toInt64 = lI ((pdW W w n / (W / w i) : Nat) : Int) := by
        rw [e1, lI_div (smN hpd (by decide)) (smN (hdl i) (by decide)) (posN (hdp i (by omega)))]
        rw [Int.tdiv_eq_ediv_of_nonneg (by omega)]
        rfl
      refine v_last C (i + 1) dX0_start_106 (row_get i hi4) (nI_1 i) (by omega) (by decide) ?_
      rw [row_set _ i hi4, fi]
      refine v_aload_n C dX0_start_107 rfl ?_
      refine v_get C dX0_start_108 fl_X0_20 rfl rfl ?_
      refine v_iload_n C dX0_start_111 rfl ?_
      refine v_aald C i dX0_start_112 rfl rfl hi4 (by decide) (rowF_at i hi4) ?_
      refine v_iconst C (0) dX0_start_113 (by decide) ?_
      refine v_aload_n C dX0_start_114 rfl ?_
      refine v_get C dX0_start_115 fl_X0_34 rfl rfl ?_
      refine v_get C dX0_start_118 fl_X0_79 rfl rfl ?_
      refine v_iload_n C dX0_start_121 rfl ?_
      refine v_iald C i dX0_start_122 rfl rfl hi4 (by decide) ?_
      refine v_i2l C dX0_start_123 ?_
      refine v_aload_n C dX0_start_124 rfl ?_
      refine v_get C dX0_start_125 fl_X0_20 rfl rfl ?_
      refine v_iload_n C dX0_start_128 rfl ?_
      refine v_aald C i dX0_start_129 rfl rfl hi4 (by decide) (rowF_at i hi4) ?_
      refine v_iload_n C dX0_start_130 rfl ?_
      refine v_iconst C (1) dX0_start_131 (by decide) ?_
      refine v_iadd C dX0_start_132 ?_
      refine v_lald C (i + 1) dX0_start_133 (row_get i hi4) (nI_1 i) (by omega) (by decide) ?_
      refine v_lmul C dX0_start_134 ?_
      refine v_last C 0 dX0_start_135 (row_get i hi4) rfl (by omega) (by decide) ?_
      rw [row_set _ i hi4]
      refine v_iinc C dX0_start_136 rfl (nI_1 i) (by decide) ?_
      refine v_goto C 53 dX0_start_139 (by decide) ?_
      refine ih (i + 1) _ (by omega) (fun k j hk hj => ?_)
      unfold va_up
      by_cases e : k = i
      · subst e
        rw [if_pos rfl, if_pos rfl]
        by_cases e0 : j = 0
        · subst e0
          have hR : R0 W n w q k 0 = ((q k * (pdW W w n / (W / w k)) : Nat) : Int) := by
            unfold R0
            rw [if_neg (by omega), if_pos rfl]
          rw [hR]
          show (if 0 = 0 then (nI (q k)).toInt64 * (if k + 1 = k + 1 then lI ((pdW W w n : Nat) : Int) / (nI W / nI (w k)).toInt64 else f (k + 1)) else _) = _
          rw [if_pos rfl, if_pos rfl, e2, nI_lI (by have := hq k hi4; omega), lI_mul]
          rfl
        · by_cases ej : j = k + 1
          · have hR : R0 W n w q k j = ((pdW W w n / (W / w k) : Nat) : Int) := by
              unfold R0
              rw [if_pos ej]
            rw [hR]
            show (if j = 0 then _ else (if j = k + 1 then lI ((pdW W w n : Nat) : Int) / (nI W / nI (w k)).toInt64 else f j)) = _
            rw [if_neg e0, if_pos ej]
            exact e2
          · have hR : R0 W n w q k j = 0 := by
              unfold R0
              rw [if_neg ej, if_neg e0]
            rw [hR]
            show (if j = 0 then _ else (if j = k + 1 then lI ((pdW W w n : Nat) : Int) / (nI W / nI (w k)).toInt64 else f j)) = _
            rw [if_neg e0, if_neg ej, hf j hj]
            rfl
      · rw [if_neg e, if_neg e, if_neg e]
        exact h1 k j (by omega) hj
  have first : ∀ (m i : Nat), i + m = n → V 2 X (hC (jJ W n w q) Lf P N (fF tp bt (lI (pdW W w i)) ρ en sh) tl) 7 [(0, .ref 14), (1, .int (nI i))] [] := by
    intro m
    induction m with
    | zero =>
      intro i hi
      obtain rfl : i = n := by omega
      refine v_iload_n C dX0_start_7 rfl ?_
      refine v_aload_n C dX0_start_8 rfl ?_
      refine v_get C dX0_start_9 fl_X0_34 rfl rfl ?_
      refine v_get C dX0_start_12 fl_X0_61 rfl rfl ?_
      refine v_icmp_ge C 51 dX0_start_15 (by decide) (fun _ => ?_) (fun q => absurd (nI_le (Nat.le_refl _) (by omega)) q)
      refine v_iconst C (0) dX0_start_51 (by decide) ?_
      refine v_istore_n C dX0_start_52 (by decide) ?_
      exact second i 0 ρ (by omega) (fun k j hk => absurd hk (Nat.not_lt_zero k))
    | succ m ih =>
      intro i hi
      refine v_iload_n C dX0_start_7 rfl ?_
      refine v_aload_n C dX0_start_8 rfl ?_
      refine v_get C dX0_start_9 fl_X0_34 rfl rfl ?_
      refine v_get C dX0_start_12 fl_X0_61 rfl rfl ?_
      refine v_icmp_ge C 51 dX0_start_15 (by decide) (fun q => absurd q (nI_ge (by omega) (by omega))) (fun _ => ?_)
      refine v_aload_n C dX0_start_18 rfl ?_
      refine v_dup C dX0_start_19 rfl ?_
      refine v_get C dX0_start_20 fl_X0_23 rfl rfl ?_
      refine v_aload_n C dX0_start_23 rfl ?_
      refine v_get C dX0_start_24 fl_X0_34 rfl rfl ?_
      refine v_get C dX0_start_27 fl_X0_67 rfl rfl ?_
      refine v_aload_n C dX0_start_30 rfl ?_
      refine v_get C dX0_start_31 fl_X0_34 rfl rfl ?_
      refine v_get C dX0_start_34 fl_X0_70 rfl rfl ?_
      refine v_iload_n C dX0_start_37 rfl ?_
      refine v_iald C i dX0_start_38 rfl rfl (by omega) (by decide) ?_
      refine v_idiv C dX0_start_39 (nI_ne0 (hw i (by omega)).1 (by have := hw i (by omega); omega)) ?_
      refine v_i2l C dX0_start_40 ?_
      refine v_lmul C dX0_start_41 ?_
      refine v_put C dX0_start_42 fp_X0_23 rfl (fun _ => rfl) (fun _ => rfl) (Nat.le_of_ble_eq_true rfl) ?_
      refine v_iinc C dX0_start_45 rfl (nI_1 i) (by decide) ?_
      refine v_goto C 7 dX0_start_48 (by decide) ?_
      refine v_eq (ih (i + 1) (by omega)) ?_ rfl rfl rfl
      show hC (jJ W n w q) Lf P N (fF tp bt (lI (pdW W w i) * (nI W / nI (w i)).toInt64) ρ en sh) tl = _
      rw [hdv i (by omega), nI_lI (by have := hdl i; omega), lI_mul]
      rfl
  refine v_aload_n C dX0_start_0 rfl ?_
  refine v_lconst C (1) dX0_start_1 (by decide) ?_
  refine v_put C dX0_start_2 fp_X0_23 rfl (fun _ => rfl) (fun _ => rfl) (Nat.le_of_ble_eq_true rfl) ?_
  refine v_iconst C (0) dX0_start_5 (by decide) ?_
  refine v_istore_n C dX0_start_6 (by decide) ?_
  exact first n 0 (by omega)
end FLOOR
