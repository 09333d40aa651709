/-! copyPattern, findCheaper, usedUpBefore, rowToLeave, exchange -/
/-- what copyPattern collects: f turns more, r room left -/
def ta (w : Nat → Nat) (KP : Nat → Int32) : Nat → Nat → (Nat → Nat) → (Nat → Nat)
  | 0, _, acc => acc
  | f + 1, r, acc => if r = 0 then acc else if KP r = -1 then ta w KP f (r - 1) acc else ta w KP f (r - w (KP r).toNatClampNeg) (va_up acc (KP r).toNatClampNeg (acc (KP r).toNatClampNeg + 1))
theorem ta_0 {w : Nat → Nat} {KP : Nat → Int32} : ∀ (f : Nat) (acc : Nat → Nat), ta w KP f 0 acc = acc
  | 0, _ => rfl
  | _ + 1, _ => if_pos rfl
theorem sm_mul {A B a b : Int} (hA : 0 ≤ A) (hB : 0 ≤ B) (ha : Sm A a) (hb : Sm B b) : Sm (A * B) (a * b) := by
  unfold Sm at *
  have hAB : 0 ≤ A * B := Int.mul_nonneg hA hB
  have h1 : a * b ≤ A * B := by
    rcases Int.le_total 0 a with x | x <;> rcases Int.le_total 0 b with y | y
    · exact Int.mul_le_mul ha.2 hb.2 y hA
    · exact Int.le_trans (Int.mul_nonpos_of_nonneg_of_nonpos x y) hAB
    · exact Int.le_trans (Int.mul_nonpos_of_nonpos_of_nonneg x y) hAB
    · rw [← Int.neg_mul_neg]; exact Int.mul_le_mul (by omega) (by omega) (by omega) hA
  have h2 : -(A * B) ≤ a * b := by
    rcases Int.le_total 0 a with x | x <;> rcases Int.le_total 0 b with y | y
    · exact Int.le_trans (by omega) (Int.mul_nonneg x y)
    · have h3 : a * (-b) ≤ A * B := Int.mul_le_mul ha.2 (by omega) (by omega) hA
      rw [Int.mul_neg] at h3; omega
    · have h3 : (-a) * b ≤ A * B := Int.mul_le_mul (by omega) hb.2 y hA
      rw [Int.neg_mul] at h3; omega
    · have h3 : 0 ≤ (-a) * (-b) := Int.mul_nonneg (by omega) (by omega)
      rw [Int.neg_mul_neg] at h3; omega
  exact ⟨h2, h1⟩
section FLOOR2
variable {W n : Nat} {w q : Nat → Nat} {Lf : Nat → Int32} {P : SP} {N : SN} {tl : List PC} {d : Nat} {tp bt dt : Int64} {ρ : Nat → Nat → Int64} {en : Nat → Int32} {sh : Nat → Int64} {R : Nat → Nat → Int}
set_option maxHeartbeats 8000000 in
set_option maxRecDepth 100000 in
theorem c_copyPattern (KP : Nat → Int32) (hn : n ≤ 4) (hW2 : W ≤ 60) (hw : ∀ k, k < n → 1 ≤ w k ∧ w k ≤ 60) (hkp : ∀ r, 1 ≤ r → r ≤ W → KP r = -1 ∨ ∃ k, k < n ∧ w k ≤ r ∧ KP r = nI k) (hpc : ∀ r, 1 ≤ r → r ≤ W → N.2.2 r = KP r) (hd : 1 ≤ d) : Con yX2_copyPattern cX2_copyPattern 5 none d [.ref 10, .ref 20] (hC (jJ W n w q) Lf P N (fF tp bt dt ρ en sh) tl) (fun r h' => r = none ∧ ∃ e : Nat → Nat, (∀ k, k < 4 → e k = ta w KP 60 W (fun _ => 0) k) ∧ h' = hC (jJ W n w q) Lf P N (fF tp bt dt ρ (iN e) sh) tl) := by
  refine con_of [(0, .ref 10), (1, .ref 20)] (by decide) (fun _ => Nat.le_of_ble_eq_true rfl) (fun _ => rfl) (fun X C E => ?_)
  have fin : ∀ (e : Nat → Nat) (lv : List (Nat × Value)), (∀ k, k < 4 → e k = ta w KP 60 W (fun _ => 0) k) → V 5 X (hC (jJ W n w q) Lf P N (fF tp bt dt ρ (iN e) sh) tl) 72 lv [] := fun e lv he => v_vret C E dX2_copyPattern_72 ⟨rfl, e, he, rfl⟩
  have key : ∀ (m i r : Nat) (e acc : Nat → Nat), i + m = 60 → r ≤ m → r ≤ W → (∀ k, k < 4 → e k = acc k) → (∀ k, k < 4 → e k ≤ i) → ta w KP 60 W (fun _ => 0) = ta w KP m r acc → V 5 X (hC (jJ W n w q) Lf P N (fF tp bt dt ρ (iN e) sh) tl) 15 [(0, .ref 10), (1, .ref 20), (2, .int (nI r)), (3, .int (nI i))] [] := by
    intro m
    induction m with
    | zero =>
      intro i r e acc hi hr hrW he hei hta
      refine v_iload_n C dX2_copyPattern_15 rfl ?_
      refine v_bipush C (60) dX2_copyPattern_16 (by decide) ?_
      refine v_icmp_ge C 72 dX2_copyPattern_18 (by decide) (fun _ => ?_) (fun q => absurd (nI_le (a := 60) (by omega) (by omega)) q)
      exact fin e _ (fun k hk => by rw [hta]; exact he k hk)
    | succ m ih =>
      intro i r e acc hi hr hrW he hei hta
      refine v_iload_n C dX2_copyPattern_15 rfl ?_
      refine v_bipush C (60) dX2_copyPattern_16 (by decide) ?_
      refine v_icmp_ge C 72 dX2_copyPattern_18 (by decide) (fun q => absurd q (nI_ge (b := 60) (by omega) (by omega))) (fun _ => ?_)
      refine v_iload_n C dX2_copyPattern_21 rfl ?_
      by_cases hr0 : r = 0
      · subst hr0
        refine v_if_le C 72 dX2_copyPattern_22 (by decide) (fun _ => ?_) (fun q => absurd ((by decide)) q)
        refine fin e _ (fun k hk => ?_)
        rw [hta, ta_0]
        exact he k hk
      refine v_if_le C 72 dX2_copyPattern_22 (by decide) (fun q => absurd q (nI_nle (by omega) (by omega))) (fun _ => ?_)
      refine v_aload_n C dX2_copyPattern_25 rfl ?_
      refine v_get C dX2_copyPattern_26 fl_X2_18 rfl rfl ?_
      refine v_iload_n C dX2_copyPattern_29 rfl ?_
      refine v_iald C r dX2_copyPattern_30 rfl rfl (by omega) (by decide) ?_
      refine v_istore C dX2_copyPattern_31 (by decide) ?_
      refine v_iload C dX2_copyPattern_33 rfl ?_
      have hp := hpc r (by omega) hrW
      have back : ∀ (r2 : Nat) (e2 acc2 : Nat → Nat) (x : Int32), r2 ≤ m → r2 ≤ W → (∀ k, k < 4 → e2 k = acc2 k) → (∀ k, k < 4 → e2 k ≤ i + 1) → ta w KP 60 W (fun _ => 0) = ta w KP m r2 acc2 → V 5 X (hC (jJ W n w q) Lf P N (fF tp bt dt ρ (iN e2) sh) tl) 66 [(0, .ref 10), (1, .ref 20), (2, .int (nI r2)), (3, .int (nI i)), (4, .int x)] [] := by
        intro r2 e2 acc2 x h1 h2 h3 h4 h5
        refine v_iinc C dX2_copyPattern_66 rfl (nI_1 i) (by decide) ?_
        refine v_goto C 15 dX2_copyPattern_69 (by decide) ?_
        exact v_keep [0, 1, 2, 3] (ih (i + 1) r2 e2 acc2 (by omega) h1 h2 h3 h4 h5)
      have hst : ta w KP (m + 1) r acc = _ := if_neg hr0
      rcases hkp r (by omega) hrW with hk | ⟨k, hkn, hkw, hk⟩
      · refine v_eq (lv' := [(0, .ref 10), (1, .ref 20), (2, .int (nI r)), (3, .int (nI i)), (4, .int (-1))]) (st' := [.int (-1)]) ?_ rfl rfl (congrArg (fun z => [(0, Value.ref 10), (1, .ref 20), (2, .int (nI r)), (3, .int (nI i)), (4, .int z)]) (hp.trans hk)) (congrArg (fun z => [Value.int z]) (hp.trans hk))
        refine v_iconst C (-1) dX2_copyPattern_35 (by decide) ?_
        refine v_icmp_ne C 45 dX2_copyPattern_36 (by decide) (fun q => absurd q ((fun z => z rfl))) (fun _ => ?_)
        obtain ⟨r', rfl⟩ : ∃ r', r = r' + 1 := ⟨r - 1, by omega⟩
        refine v_iinc C dX2_copyPattern_39 rfl (pk_m1 r') (by decide) ?_
        refine v_goto C 66 dX2_copyPattern_42 (by decide) ?_
        refine back r' e acc _ (by omega) (by omega) he (fun k hk => Nat.le_succ_of_le (hei k hk)) ?_
        rw [hta, hst, if_pos hk]
        rfl
      · have hw1 := hw k hkn
        have hnm : ¬ nI k = -1 := fun z => by
          have h9 := congrArg Int32.toInt z
          rw [nI_toInt (by omega)] at h9
          have h8 : ((-1 : Int32)).toInt = -1 := rfl
          omega
        have hcl : (KP r).toNatClampNeg = k := by rw [hk]; exact nI_clamp (by omega)
        refine v_eq (lv' := [(0, .ref 10), (1, .ref 20), (2, .int (nI r)), (3, .int (nI i)), (4, .int (nI k))]) (st' := [.int (nI k)]) ?_ rfl rfl (congrArg (fun z => [(0, Value.ref 10), (1, .ref 20), (2, .int (nI r)), (3, .int (nI i)), (4, .int z)]) (hp.trans hk)) (congrArg (fun z => [Value.int z]) (hp.trans hk))
        refine v_iconst C (-1) dX2_copyPattern_35 (by decide) ?_
        refine v_icmp_ne C 45 dX2_copyPattern_36 (by decide) (fun _ => ?_) (fun q => absurd q (hnm))
        have hek := hei k (by omega)
        refine v_aload_n C dX2_copyPattern_45 rfl ?_
        refine v_iload C dX2_copyPattern_46 rfl ?_
        refine v_dup2_11 C dX2_copyPattern_48 rfl rfl ?_
        refine v_iald C k dX2_copyPattern_49 rfl rfl (by omega) (by decide) ?_
        refine v_iconst C (1) dX2_copyPattern_50 (by decide) ?_
        refine v_iadd C dX2_copyPattern_51 ?_
        refine v_iast C k dX2_copyPattern_52 rfl rfl (by omega) (by decide) ?_
        refine v_eq (h' := hC (jJ W n w q) Lf P N (fF tp bt dt ρ (iN (va_up e k (e k + 1))) sh) tl) ?_ ?_
        case refine_2 =>
          show hC (jJ W n w q) Lf P N (fF tp bt dt ρ (upd (iN e) k (nI (e k) + nI 1)) sh) tl = _
          rw [nI_add, upd_iN]
        refine v_iload_n C dX2_copyPattern_53 rfl ?_
        refine v_aload_n C dX2_copyPattern_54 rfl ?_
        refine v_get C dX2_copyPattern_55 fl_X2_22 rfl rfl ?_
        refine v_get C dX2_copyPattern_58 fl_X2_39 rfl rfl ?_
        refine v_iload C dX2_copyPattern_61 rfl ?_
        refine v_iald C k dX2_copyPattern_63 rfl rfl (by omega) (by decide) ?_
        refine v_isub C dX2_copyPattern_64 ?_
        refine v_istore_n C dX2_copyPattern_65 (by decide) ?_
        refine v_eq (back (r - w k) (va_up e k (e k + 1)) (va_up acc k (acc k + 1)) _ (by omega) (by omega) (fun j hj => ?_) (fun j hj => ?_) ?_) rfl rfl (by show [(0, Value.ref 10), (1, .ref 20), (2, .int (nI r - nI (w k))), (3, .int (nI i)), (4, .int (nI k))] = _; rw [pk_sub hkw]) rfl
        · unfold va_up
          by_cases ej : j = k
          · rw [if_pos ej, if_pos ej, he k (by omega)]
          · rw [if_neg ej, if_neg ej]; exact he j hj
        · unfold va_up
          split
          · omega
          · exact Nat.le_succ_of_le (hei j hj)
        · rw [hta, hst, if_neg (by rw [hk]; exact hnm), hcl]
  refine v_aload_n C dX2_copyPattern_0 rfl ?_
  refine v_iconst C (0) dX2_copyPattern_1 (by decide) ?_
  refine v_callS C dX2_copyPattern_2 lk_X2_42 (c_fillI 0 20 4 en 0 _ rfl (by decide)) hd rfl rfl (Nat.le_of_ble_eq_true rfl) ?_
  rintro r h' ⟨rfl, f, hf, rfl⟩
  obtain ⟨e, rfl, he⟩ := iN_of f 4 (fun _ => 0) (fun i hi => hf i hi)
  refine v_aload_n C dX2_copyPattern_5 rfl ?_
  refine v_get C dX2_copyPattern_6 fl_X2_22 rfl rfl ?_
  refine v_get C dX2_copyPattern_9 fl_X2_26 rfl rfl ?_
  refine v_istore_n C dX2_copyPattern_12 (by decide) ?_
  refine v_iconst C (0) dX2_copyPattern_13 (by decide) ?_
  refine v_istore_n C dX2_copyPattern_14 (by decide) ?_
  exact key 60 0 W e (fun _ => 0) rfl hW2 (Nat.le_refl W) he (fun k hk => by rw [he k hk]; exact Nat.le_refl _) rfl
/-- row i is used up before row o -/
def ub (R : Nat → Nat → Int) (s : Nat → Int) (n i o : Nat) : Prop := ∃ c, c ≤ n ∧ (∀ c', c' < c → R i c' * s o = R o c' * s i) ∧ R i c * s o < R o c * s i
set_option maxHeartbeats 8000000 in
set_option maxRecDepth 100000 in
theorem c_usedUpBefore (s : Nat → Int) (i o : Nat) (hi : i < n) (ho : o < n) (hn : n ≤ 4) (hR : ∀ i j, i < n → j < 5 → ρ i j = lI (R i j)) (hRs : ∀ i j, i < n → j ≤ n → Sm 33554432 (R i j)) (hs : ∀ i, i < n → sh i = lI (s i)) (hss : ∀ i, i < n → Sm 536870912 (s i)) : Con yX0_usedUpBefore cX0_usedUpBefore 8 (some .boolean) d [.ref 14, .int (nI i), .int (nI o)] (hC (jJ W n w q) Lf P N (fF tp bt dt ρ en sh) tl) (fun r h' => ((r = some (.int 1) ∧ ub R s n i o) ∨ (r = some (.int 0) ∧ ¬ ub R s n i o)) ∧ h' = hC (jJ W n w q) Lf P N (fF tp bt dt ρ en sh) tl) := by
  refine con_of [(0, .ref 14), (1, .int (nI i)), (2, .int (nI o))] (by decide) (fun _ => Nat.le_of_ble_eq_true rfl) (fun _ => rfl) (fun X C E => ?_)
  have sm : ∀ a b : Int, Sm 33554432 a → Sm 536870912 b → Sm L62 (a * b) := by
    intro a b ha hb
    have h := sm_mul (by decide) (by decide) ha hb
    have h4 : (33554432 * 536870912 : Int) = 18014398509481984 := by decide
    rw [h4] at h
    unfold Sm L62 at *
    omega
  have key : ∀ (m c : Nat), c + m = n + 1 → (∀ c', c' < c → R i c' * s o = R o c' * s i) → V 8 X (hC (jJ W n w q) Lf P N (fF tp bt dt ρ en sh) tl) 2 [(0, .ref 14), (1, .int (nI i)), (2, .int (nI o)), (3, .int (nI c))] [] := by
    intro m
    induction m with
    | zero =>
      intro c hc heq
      refine v_iload_n C dX0_usedUpBefore_2 rfl ?_
      refine v_aload_n C dX0_usedUpBefore_3 rfl ?_
      refine v_get C dX0_usedUpBefore_4 fl_X0_34 rfl rfl ?_
      refine v_get C dX0_usedUpBefore_7 fl_X0_61 rfl rfl ?_
      refine v_icmp_gt C 75 dX0_usedUpBefore_10 (by decide) (fun _ => ?_) (fun q => absurd (nI_lt (by omega) (by omega)) q)
      refine v_iconst C (0) dX0_usedUpBefore_75 (by decide) ?_
      refine v_zret C E dX0_usedUpBefore_76 rfl ⟨Or.inr ⟨rfl, ?_⟩, rfl⟩
      rintro ⟨c2, h1, h2, h3⟩
      have := heq c2 (by omega)
      omega
    | succ m ih =>
      intro c hc heq
      have ea : ρ i c * sh o = lI (R i c * s o) := by rw [hR i c hi (by omega), hs o ho, lI_mul]
      have eb : ρ o c * sh i = lI (R o c * s i) := by rw [hR o c ho (by omega), hs i hi, lI_mul]
      have sa := sm _ _ (hRs i c hi (by omega)) (hss o ho)
      have sb := sm _ _ (hRs o c ho (by omega)) (hss i hi)
      refine v_iload_n C dX0_usedUpBefore_2 rfl ?_
      refine v_aload_n C dX0_usedUpBefore_3 rfl ?_
      refine v_get C dX0_usedUpBefore_4 fl_X0_34 rfl rfl ?_
      refine v_get C dX0_usedUpBefore_7 fl_X0_61 rfl rfl ?_
      refine v_icmp_gt C 75 dX0_usedUpBefore_10 (by decide) (fun q => absurd q (nI_nlt (by omega) (by omega))) (fun _ => ?_)
      refine v_aload_n C dX0_usedUpBefore_13 rfl ?_
      refine v_get C dX0_usedUpBefore_14 fl_X0_20 rfl rfl ?_
      refine v_iload_n C dX0_usedUpBefore_17 rfl ?_
      refine v_aald C i dX0_usedUpBefore_18 rfl rfl (by omega) (by decide) (rowF_at i (by omega)) ?_
      refine v_iload_n C dX0_usedUpBefore_19 rfl ?_
      refine v_lald C c dX0_usedUpBefore_20 (row_get i (by omega)) rfl (by omega) (by decide) ?_
      refine v_aload_n C dX0_usedUpBefore_21 rfl ?_
      refine v_get C dX0_usedUpBefore_22 fl_X0_30 rfl rfl ?_
      refine v_iload_n C dX0_usedUpBefore_25 rfl ?_
      refine v_lald C o dX0_usedUpBefore_26 rfl rfl (by omega) (by decide) ?_
      refine v_lmul C dX0_usedUpBefore_27 ?_
      refine v_lstore C dX0_usedUpBefore_28 (by decide) ?_
      refine v_aload_n C dX0_usedUpBefore_30 rfl ?_
      refine v_get C dX0_usedUpBefore_31 fl_X0_20 rfl rfl ?_
      refine v_iload_n C dX0_usedUpBefore_34 rfl ?_
      refine v_aald C o dX0_usedUpBefore_35 rfl rfl (by omega) (by decide) (rowF_at o (by omega)) ?_
      refine v_iload_n C dX0_usedUpBefore_36 rfl ?_
      refine v_lald C c dX0_usedUpBefore_37 (row_get o (by omega)) rfl (by omega) (by decide) ?_
      refine v_aload_n C dX0_usedUpBefore_38 rfl ?_
      refine v_get C dX0_usedUpBefore_39 fl_X0_30 rfl rfl ?_
      refine v_iload_n C dX0_usedUpBefore_42 rfl ?_
      refine v_lald C i dX0_usedUpBefore_43 rfl rfl (by omega) (by decide) ?_
      refine v_lmul C dX0_usedUpBefore_44 ?_
      refine v_eq (lv' := [(0, .ref 14), (1, .int (nI i)), (2, .int (nI o)), (3, .int (nI c)), (4, .long (lI (R i c * s o)))]) (st' := [.long (lI (R o c * s i))]) ?_ rfl rfl (congrArg (fun z => [(0, Value.ref 14), (1, .int (nI i)), (2, .int (nI o)), (3, .int (nI c)), (4, .long z)]) ea) (congrArg (fun z => [Value.long z]) eb)
      refine v_lstore C dX0_usedUpBefore_45 (by decide) ?_
      refine v_lload C dX0_usedUpBefore_47 rfl ?_
      refine v_lload C dX0_usedUpBefore_49 rfl ?_
      refine v_lcmp C dX0_usedUpBefore_51 ?_
      by_cases e0 : R i c * s o = R o c * s i
      · have hcmp : lg_cmp (lI (R i c * s o)) (lI (R o c * s i)) = 0 := by rw [lg_cmp_eq, e0]
        refine v_if_eq C 69 dX0_usedUpBefore_52 (by decide) (fun _ => ?_) (fun q => absurd (hcmp) q)
        refine v_iinc C dX0_usedUpBefore_69 rfl (nI_1 c) (by decide) ?_
        refine v_goto C 2 dX0_usedUpBefore_72 (by decide) ?_
        refine v_keep [0, 1, 2, 3] (ih (c + 1) (by omega) (fun c' h => ?_))
        by_cases e1 : c' = c
        · rw [e1]; exact e0
        · exact heq c' (by omega)
      · have hcmp : ¬ lg_cmp (lI (R i c * s o)) (lI (R o c * s i)) = 0 := by rw [lg_cmp_eq, lI_eq sa sb]; exact e0
        refine v_if_eq C 69 dX0_usedUpBefore_52 (by decide) (fun q => absurd q (hcmp)) (fun _ => ?_)
        refine v_lload C dX0_usedUpBefore_55 rfl ?_
        refine v_lload C dX0_usedUpBefore_57 rfl ?_
        refine v_lcmp C dX0_usedUpBefore_59 ?_
        by_cases e1 : R i c * s o < R o c * s i
        · have hc2 : ¬ 0 ≤ lg_cmp (lI (R i c * s o)) (lI (R o c * s i)) := by rw [lg_cmp_ge, lI_le sb sa]; omega
          refine v_if_ge C 67 dX0_usedUpBefore_60 (by decide) (fun q => absurd q (hc2)) (fun _ => ?_)
          refine v_iconst C (1) dX0_usedUpBefore_63 (by decide) ?_
          refine v_goto C 68 dX0_usedUpBefore_64 (by decide) ?_
          exact v_zret C E dX0_usedUpBefore_68 rfl ⟨Or.inl ⟨rfl, c, by omega, heq, e1⟩, rfl⟩
        · have hc2 : 0 ≤ lg_cmp (lI (R i c * s o)) (lI (R o c * s i)) := by rw [lg_cmp_ge, lI_le sb sa]; omega
          refine v_if_ge C 67 dX0_usedUpBefore_60 (by decide) (fun _ => ?_) (fun q => absurd (hc2) q)
          refine v_iconst C (0) dX0_usedUpBefore_67 (by decide) ?_
          refine v_zret C E dX0_usedUpBefore_68 rfl ⟨Or.inr ⟨rfl, ?_⟩, rfl⟩
          rintro ⟨c2, h1, h2, h3⟩
          rcases Nat.lt_trichotomy c2 c with x | x | x
          · have := heq c2 x; omega
          · subst x; omega
          · exact e0 (h2 c x)
  refine v_iconst C (0) dX0_usedUpBefore_0 (by decide) ?_
  refine v_istore_n C dX0_usedUpBefore_1 (by decide) ?_
  exact key (n + 1) 0 (by omega) (fun c' h => absurd h (Nat.not_lt_zero c'))
theorem ub_trans {s : Nat → Int} {i o j : Nat} (si : 0 < s i) (so : 0 < s o) (sj : 0 < s j) (h1 : ub R s n j i) (h2 : ub R s n i o) : ub R s n j o := by
  have eqt : ∀ a b c x y z : Int, 0 < y → a * y = b * x → b * z = c * y → a * z = c * x := by
    intro a b c x y z hy e1 e2
    apply Int.eq_of_mul_eq_mul_right (a := y) (by omega)
    rw [Int.mul_assoc, Int.mul_comm z y, ← Int.mul_assoc, e1, Int.mul_assoc, Int.mul_comm x z, ← Int.mul_assoc, e2, Int.mul_assoc, Int.mul_comm y x, ← Int.mul_assoc]
  have ltt : ∀ a b c x y z : Int, 0 < y → 0 < z → 0 < x → a * y ≤ b * x → b * z ≤ c * y → (a * y < b * x ∨ b * z < c * y) → a * z < c * x := by
    intro a b c x y z hy hz hx e1 e2 e3
    apply Int.lt_of_mul_lt_mul_right (a := y) _ (by omega)
    have t1 : a * y * z ≤ b * x * z := Int.mul_le_mul_of_nonneg_right e1 (by omega)
    have t2 : b * z * x ≤ c * y * x := Int.mul_le_mul_of_nonneg_right e2 (by omega)
    have q1 : a * z * y = a * y * z := by rw [Int.mul_assoc, Int.mul_comm z y, ← Int.mul_assoc]
    have q2 : b * x * z = b * z * x := by rw [Int.mul_assoc, Int.mul_comm x z, ← Int.mul_assoc]
    have q3 : c * y * x = c * x * y := by rw [Int.mul_assoc, Int.mul_comm y x, ← Int.mul_assoc]
    rcases e3 with e3 | e3
    · have t3 : a * y * z < b * x * z := Int.mul_lt_mul_of_pos_right e3 hz
      omega
    · have t3 : b * z * x < c * y * x := Int.mul_lt_mul_of_pos_right e3 hx
      omega
  obtain ⟨c1, a1, a2, a3⟩ := h1
  obtain ⟨c2, b1, b2, b3⟩ := h2
  rcases Nat.lt_trichotomy c1 c2 with x | x | x
  · exact ⟨c1, a1, fun c' h => eqt _ _ _ _ _ _ si (a2 c' h) (b2 c' (by omega)), ltt _ _ _ _ _ _ si so sj (Int.le_of_lt a3) (Int.le_of_eq (b2 c1 x)) (Or.inl a3)⟩
  · subst x
    exact ⟨c1, a1, fun c' h => eqt _ _ _ _ _ _ si (a2 c' h) (b2 c' h), ltt _ _ _ _ _ _ si so sj (Int.le_of_lt a3) (Int.le_of_lt b3) (Or.inl a3)⟩
  · exact ⟨c2, b1, fun c' h => eqt _ _ _ _ _ _ si (a2 c' (by omega)) (b2 c' h), ltt _ _ _ _ _ _ si so sj (Int.le_of_eq (a2 c2 x)) (Int.le_of_lt b3) (Or.inr b3)⟩
theorem ub_irr {s : Nat → Int} {i : Nat} : ¬ ub R s n i i := fun ⟨_, _, _, h⟩ => absurd h (Int.lt_irrefl _)
set_option maxHeartbeats 8000000 in
set_option maxRecDepth 100000 in
theorem c_rowToLeave (s : Nat → Int) (hn : n ≤ 4) (hR : ∀ i j, i < n → j < 5 → ρ i j = lI (R i j)) (hRs : ∀ i j, i < n → j ≤ n → Sm 33554432 (R i j)) (hs : ∀ i, i < n → sh i = lI (s i)) (hss : ∀ i, i < n → Sm 536870912 (s i)) (hd : 1 ≤ d) : Con yX0_rowToLeave cX0_rowToLeave 3 (some .int) d [.ref 14] (hC (jJ W n w q) Lf P N (fF tp bt dt ρ en sh) tl) (fun r h' => ((r = some (.int (-1)) ∧ ∀ i, i < n → s i ≤ 0) ∨ ∃ l, r = some (.int (nI l)) ∧ l < n ∧ 0 < s l ∧ ∀ i, i < n → 0 < s i → ¬ ub R s n i l) ∧ h' = hC (jJ W n w q) Lf P N (fF tp bt dt ρ en sh) tl) := by
  refine con_of [(0, .ref 14)] (by decide) (fun _ => Nat.le_of_ble_eq_true rfl) (fun _ => rfl) (fun X C E => ?_)
  have key : ∀ (m i : Nat) (x : Int32), i + m = n → ((x = -1 ∧ ∀ j, j < i → s j ≤ 0) ∨ ∃ l, x = nI l ∧ l < i ∧ 0 < s l ∧ ∀ j, j < i → 0 < s j → ¬ ub R s n j l) → V 3 X (hC (jJ W n w q) Lf P N (fF tp bt dt ρ en sh) tl) 4 [(0, .ref 14), (1, .int x), (2, .int (nI i))] [] := by
    intro m
    induction m with
    | zero =>
      intro i x hi hx
      obtain rfl : i = n := by omega
      refine v_iload_n C dX0_rowToLeave_4 rfl ?_
      refine v_aload_n C dX0_rowToLeave_5 rfl ?_
      refine v_get C dX0_rowToLeave_6 fl_X0_34 rfl rfl ?_
      refine v_get C dX0_rowToLeave_9 fl_X0_61 rfl rfl ?_
      refine v_icmp_ge C 48 dX0_rowToLeave_12 (by decide) (fun _ => ?_) (fun q => absurd (nI_le (Nat.le_refl _) (by omega)) q)
      refine v_iload_n C dX0_rowToLeave_48 rfl ?_
      refine v_iret C E dX0_rowToLeave_49 ⟨?_, rfl⟩
      rcases hx with ⟨rfl, h1⟩ | ⟨l, rfl, h1, h2, h3⟩
      · exact Or.inl ⟨rfl, h1⟩
      · exact Or.inr ⟨l, rfl, h1, h2, h3⟩
    | succ m ih =>
      intro i x hi hx
      have hil : i < n := by omega
      have skip : ((x = -1 ∧ ∀ j, j < i + 1 → s j ≤ 0) ∨ ∃ l, x = nI l ∧ l < i + 1 ∧ 0 < s l ∧ ∀ j, j < i + 1 → 0 < s j → ¬ ub R s n j l) → V 3 X (hC (jJ W n w q) Lf P N (fF tp bt dt ρ en sh) tl) 42 [(0, .ref 14), (1, .int x), (2, .int (nI i))] [] := by
        intro hx2
        refine v_iinc C dX0_rowToLeave_42 rfl (nI_1 i) (by decide) ?_
        refine v_goto C 4 dX0_rowToLeave_45 (by decide) ?_
        exact ih (i + 1) x (by omega) hx2
      have take : 0 < s i → (∀ j, j < i → 0 < s j → ¬ ub R s n j i) → V 3 X (hC (jJ W n w q) Lf P N (fF tp bt dt ρ en sh) tl) 40 [(0, .ref 14), (1, .int x), (2, .int (nI i))] [] := by
        intro hp hx2
        refine v_iload_n C dX0_rowToLeave_40 rfl ?_
        refine v_istore_n C dX0_rowToLeave_41 (by decide) ?_
        refine v_iinc C dX0_rowToLeave_42 rfl (nI_1 i) (by decide) ?_
        refine v_goto C 4 dX0_rowToLeave_45 (by decide) ?_
        refine ih (i + 1) (nI i) (by omega) (Or.inr ⟨i, rfl, by omega, hp, fun j hj hp2 => ?_⟩)
        by_cases e : j = i
        · rw [e]; exact ub_irr
        · exact hx2 j (by omega) hp2
      refine v_iload_n C dX0_rowToLeave_4 rfl ?_
      refine v_aload_n C dX0_rowToLeave_5 rfl ?_
      refine v_get C dX0_rowToLeave_6 fl_X0_34 rfl rfl ?_
      refine v_get C dX0_rowToLeave_9 fl_X0_61 rfl rfl ?_
      refine v_icmp_ge C 48 dX0_rowToLeave_12 (by decide) (fun q => absurd q (nI_ge (by omega) (by omega))) (fun _ => ?_)
      refine v_aload_n C dX0_rowToLeave_15 rfl ?_
      refine v_get C dX0_rowToLeave_16 fl_X0_30 rfl rfl ?_
      refine v_iload_n C dX0_rowToLeave_19 rfl ?_
      refine v_lald C i dX0_rowToLeave_20 rfl rfl (by omega) (by decide) ?_
      refine v_lconst C (0) dX0_rowToLeave_21 (by decide) ?_
      refine v_lcmp C dX0_rowToLeave_22 ?_
      have sz : Sm L62 (s i) := by have := hss i hil; unfold Sm L62 at *; omega
      have hcm : (lg_cmp (sh i) 0 ≤ 0) ↔ s i ≤ 0 := by
        rw [lg_cmp_le, hs i hil, show (0 : Int64) = lI 0 from rfl, lI_le sz (by unfold Sm L62; omega)]
      by_cases hp : s i ≤ 0
      · refine v_if_le C 42 dX0_rowToLeave_23 (by decide) (fun _ => ?_) (fun q => absurd (hcm.mpr hp) q)
        refine skip ?_
        rcases hx with ⟨rfl, h1⟩ | ⟨l, rfl, h1, h2, h3⟩
        · refine Or.inl ⟨rfl, fun j hj => ?_⟩
          by_cases e : j = i
          · rw [e]; exact hp
          · exact h1 j (by omega)
        · refine Or.inr ⟨l, rfl, by omega, h2, fun j hj hp2 => ?_⟩
          by_cases e : j = i
          · rw [e] at hp2; omega
          · exact h3 j (by omega) hp2
      · refine v_if_le C 42 dX0_rowToLeave_23 (by decide) (fun q => absurd q ((fun z => hp (hcm.mp z)))) (fun _ => ?_)
        refine v_iload_n C dX0_rowToLeave_26 rfl ?_
        refine v_iconst C (-1) dX0_rowToLeave_27 (by decide) ?_
        rcases hx with ⟨rfl, h1⟩ | ⟨l, rfl, h1, h2, h3⟩
        · refine v_icmp_eq C 40 dX0_rowToLeave_28 (by decide) (fun _ => ?_) (fun q => absurd (rfl) q)
          exact take (by omega) (fun j hj hp2 => absurd (h1 j hj) (by omega))
        · have hnm : ¬ nI l = -1 := fun z => by
            have h9 := congrArg Int32.toInt z
            rw [nI_toInt (by omega)] at h9
            have h8 : ((-1 : Int32)).toInt = -1 := rfl
            omega
          refine v_icmp_eq C 40 dX0_rowToLeave_28 (by decide) (fun q => absurd q (hnm)) (fun _ => ?_)
          refine v_aload_n C dX0_rowToLeave_31 rfl ?_
          refine v_iload_n C dX0_rowToLeave_32 rfl ?_
          refine v_iload_n C dX0_rowToLeave_33 rfl ?_
          refine v_callV C dX0_rowToLeave_34 lk_X0_99 (c_usedUpBefore (d := 0) s i l hil (by omega) hn hR hRs hs hss) hd rfl rfl rfl rfl rfl (Nat.le_of_ble_eq_true rfl) ?_
          rintro r h' ⟨hr, rfl⟩
          rcases hr with ⟨rfl, hu⟩ | ⟨rfl, hu⟩
          · refine v_if_eq C 42 dX0_rowToLeave_37 (by decide) (fun z => absurd z (by decide)) (fun _ => ?_)
            exact take (by omega) (fun j hj hp2 z => h3 j hj hp2 (ub_trans (by omega) h2 hp2 z hu))
          · refine v_if_eq C 42 dX0_rowToLeave_37 (by decide) (fun _ => ?_) (fun z => absurd rfl z)
            refine skip (Or.inr ⟨l, rfl, by omega, h2, fun j hj hp2 => ?_⟩)
            by_cases e : j = i
            · rw [e]; exact hu
            · exact h3 j (by omega) hp2
  refine v_iconst C (-1) dX0_rowToLeave_0 (by decide) ?_
  refine v_istore_n C dX0_rowToLeave_1 (by decide) ?_
  refine v_iconst C (0) dX0_rowToLeave_2 (by decide) ?_
  refine v_istore_n C dX0_rowToLeave_3 (by decide) ?_
  exact key n 0 (-1) (by omega) (Or.inl ⟨rfl, fun j hj => absurd hj (Nat.not_lt_zero j)⟩)
end FLOOR2
