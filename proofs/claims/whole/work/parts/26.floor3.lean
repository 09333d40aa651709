/-! findCheaper, exchange, the greatest common divisor, reduce -/
section FLOOR3
variable {W n : Nat} {w q : Nat → Nat} {Lf : Nat → Int32} {P : SP} {wl bl : Nat → Int64} {pc : Nat → Int32} {tl : List PC} {d : Nat} {tp bt dt : Int64} {ρ : Nat → Nat → Int64} {en : Nat → Int32} {sh : Nat → Int64} {R : Nat → Nat → Int}
set_option maxHeartbeats 8000000 in
set_option maxRecDepth 100000 in
theorem c_findCheaper (Dt : Int) (hn : n ≤ 4) (hW2 : W ≤ 60) (hw : ∀ k, k < n → 1 ≤ w k ∧ w k ≤ 60) (hR : ∀ i j, i < n → j < 5 → ρ i j = lI (R i j)) (hy : ∀ k, k < n → Sm 134217728 (csum R (k + 1) n)) (hDt : Sm 1152921504606846976 Dt) (hdt : dt = lI Dt) (hbl : bl 0 = 0) (hd : 2 ≤ d) : Con yX0_findCheaper cX0_findCheaper 3 (some .boolean) d [.ref 14] (hC (jJ W n w q) Lf P (wl, bl, pc) (fF tp bt dt ρ en sh) tl) (fun r h' => ∃ (N' : SN) (K : Nat → Int) (KP : Nat → Int32), N'.2.1 0 = 0 ∧ KOk W n w (fun k => csum R (k + 1) n) K KP ∧ ((r = some (.int 0) ∧ K W ≤ Dt ∧ h' = hC (jJ W n w q) Lf P N' (fF tp bt dt ρ en sh) tl) ∨ (r = some (.int 1) ∧ Dt < K W ∧ ∃ (e : Nat → Nat) (sh' : Nat → Int64), (∀ k, k < 4 → e k = ta w KP 60 W (fun _ => 0) k) ∧ (∀ i, i < n → sh' i = lI (dotp (R i) e n)) ∧ h' = hC (jJ W n w q) Lf P N' (fF tp bt dt ρ (iN e) sh') tl))) := by
  refine con_of [(0, .ref 14)] (by decide) (fun _ => Nat.le_of_ble_eq_true rfl) (fun _ => rfl) (fun X C E => ?_)
  have hw1 : ∀ k, k < n → 1 ≤ w k := fun k hk => (hw k hk).1
  -- the shares
  have shares : ∀ (N' : SN) (e : Nat → Nat), (∀ k, k < 4 → e k < 2 ^ 31) → (∀ sh', (∀ i, i < n → sh' i = lI (dotp (R i) e n)) → V 3 X (hC (jJ W n w q) Lf P N' (fF tp bt dt ρ (iN e) sh') tl) 135 [(0, .ref 14)] []) →
      ∀ (m i : Nat) (sh' : Nat → Int64), i + m = n → (∀ j, j < i → sh' j = lI (dotp (R j) e n)) → V 3 X (hC (jJ W n w q) Lf P N' (fF tp bt dt ρ (iN e) sh') tl) 65 [(0, .ref 14), (1, .int (nI i))] [] := by
    intro N' e he kk m
    induction m with
    | zero =>
      intro i sh' hi h1
      obtain rfl : i = n := by omega
      refine v_iload_n C dX0_findCheaper_65 rfl ?_
      refine v_aload_n C dX0_findCheaper_66 rfl ?_
      refine v_get C dX0_findCheaper_67 fl_X0_34 rfl rfl ?_
      refine v_get C dX0_findCheaper_70 fl_X0_61 rfl rfl ?_
      refine v_icmp_ge C 135 dX0_findCheaper_73 (by decide) (fun _ => ?_) (fun q => absurd (nI_le (Nat.le_refl _) (by omega)) q)
      exact v_keep [0] (kk sh' h1)
    | succ m ih =>
      intro i sh' hi h1
      have hi4 : i < 4 := by omega
      have inner : ∀ (m' k : Nat) (sh' : Nat → Int64), k + m' = n → (∀ j, j < i → sh' j = lI (dotp (R j) e n)) → sh' i = lI (dotp (R i) e k) → V 3 X (hC (jJ W n w q) Lf P N' (fF tp bt dt ρ (iN e) sh') tl) 85 [(0, .ref 14), (1, .int (nI i)), (2, .int (nI k))] [] := by
        intro m'
        induction m' with
        | zero =>
          intro k sh' hk h2 h3
          obtain rfl : k = n := by omega
          refine v_iload_n C dX0_findCheaper_85 rfl ?_
          refine v_aload_n C dX0_findCheaper_86 rfl ?_
          refine v_get C dX0_findCheaper_87 fl_X0_34 rfl rfl ?_
          refine v_get C dX0_findCheaper_90 fl_X0_61 rfl rfl ?_
          refine v_icmp_ge C 129 dX0_findCheaper_93 (by decide) (fun _ => ?_) (fun q => absurd (nI_le (Nat.le_refl _) (by omega)) q)
          refine v_iinc C dX0_findCheaper_129 rfl (nI_1 i) (by decide) ?_
          refine v_goto C 65 dX0_findCheaper_132 (by decide) ?_
          refine v_keep [0, 1] (ih (i + 1) sh' (by omega) (fun j hj => ?_))
          by_cases ej : j = i
          · rw [ej]; exact h3
          · exact h2 j (by omega)
        | succ m' ih' =>
          intro k sh' hk h2 h3
          refine v_iload_n C dX0_findCheaper_85 rfl ?_
          refine v_aload_n C dX0_findCheaper_86 rfl ?_
          refine v_get C dX0_findCheaper_87 fl_X0_34 rfl rfl ?_
          refine v_get C dX0_findCheaper_90 fl_X0_61 rfl rfl ?_
          refine v_icmp_ge C 129 dX0_findCheaper_93 (by decide) (fun q => absurd q (nI_ge (by omega) (by omega))) (fun _ => ?_)
          refine v_aload_n C dX0_findCheaper_96 rfl ?_
          refine v_get C dX0_findCheaper_97 fl_X0_30 rfl rfl ?_
          refine v_iload_n C dX0_findCheaper_100 rfl ?_
          refine v_dup2_11 C dX0_findCheaper_101 rfl rfl ?_
          refine v_lald C i dX0_findCheaper_102 rfl rfl hi4 (by decide) ?_
          refine v_aload_n C dX0_findCheaper_103 rfl ?_
          refine v_get C dX0_findCheaper_104 fl_X0_20 rfl rfl ?_
          refine v_iload_n C dX0_findCheaper_107 rfl ?_
          refine v_aald C i dX0_findCheaper_108 rfl rfl hi4 (by decide) (rowF_at i hi4) ?_
          refine v_iload_n C dX0_findCheaper_109 rfl ?_
          refine v_iconst C (1) dX0_findCheaper_110 (by decide) ?_
          refine v_iadd C dX0_findCheaper_111 ?_
          refine v_lald C (k + 1) dX0_findCheaper_112 (row_get i hi4) (nI_1 k) (by omega) (by decide) ?_
          refine v_aload_n C dX0_findCheaper_113 rfl ?_
          refine v_get C dX0_findCheaper_114 fl_X0_26 rfl rfl ?_
          refine v_iload_n C dX0_findCheaper_117 rfl ?_
          refine v_iald C k dX0_findCheaper_118 rfl rfl (by omega) (by decide) ?_
          refine v_i2l C dX0_findCheaper_119 ?_
          refine v_lmul C dX0_findCheaper_120 ?_
          refine v_ladd C dX0_findCheaper_121 ?_
          refine v_last C i dX0_findCheaper_122 rfl rfl hi4 (by decide) ?_
          refine v_iinc C dX0_findCheaper_123 rfl (nI_1 k) (by decide) ?_
          refine v_goto C 85 dX0_findCheaper_126 (by decide) ?_
          refine ih' (k + 1) (vp_updL sh' i (sh' i + ρ i (k + 1) * (nI (e k)).toInt64)) (by omega) (fun j hj => ?_) ?_
          · rw [show vp_updL sh' i (sh' i + ρ i (k + 1) * (nI (e k)).toInt64) j = sh' j from if_neg (by omega)]
            exact h2 j hj
          · rw [show vp_updL sh' i (sh' i + ρ i (k + 1) * (nI (e k)).toInt64) i = _ from if_pos rfl, h3, hR i (k + 1) (by omega) (by omega), nI_lI (he k (by omega)), lI_mul, lI_add]
            rfl
      refine v_iload_n C dX0_findCheaper_65 rfl ?_
      refine v_aload_n C dX0_findCheaper_66 rfl ?_
      refine v_get C dX0_findCheaper_67 fl_X0_34 rfl rfl ?_
      refine v_get C dX0_findCheaper_70 fl_X0_61 rfl rfl ?_
      refine v_icmp_ge C 135 dX0_findCheaper_73 (by decide) (fun q => absurd q (nI_ge (by omega) (by omega))) (fun _ => ?_)
      refine v_aload_n C dX0_findCheaper_76 rfl ?_
      refine v_get C dX0_findCheaper_77 fl_X0_30 rfl rfl ?_
      refine v_iload_n C dX0_findCheaper_80 rfl ?_
      refine v_lconst C (0) dX0_findCheaper_81 (by decide) ?_
      refine v_last C i dX0_findCheaper_82 rfl rfl hi4 (by decide) ?_
      refine v_iconst C (0) dX0_findCheaper_83 (by decide) ?_
      refine v_istore_n C dX0_findCheaper_84 (by decide) ?_
      refine inner n 0 (vp_updL sh' i 0) (by omega) (fun j hj => ?_) (if_pos rfl)
      rw [show vp_updL sh' i 0 j = sh' j from if_neg (by omega)]
      exact h1 j hj
  -- the worths
  have worths : ∀ (m k : Nat) (wl' : Nat → Int64), k + m = n → (∀ j, j < k → wl' j = lI (csum R (j + 1) n)) → V 3 X (hC (jJ W n w q) Lf P (wl', bl, pc) (fF tp bt dt ρ en sh) tl) 2 [(0, .ref 14), (1, .int (nI k))] [] := by
    intro m
    induction m with
    | zero =>
      intro k wl' hk h1
      obtain rfl : k = n := by omega
      refine v_iload_n C dX0_findCheaper_2 rfl ?_
      refine v_aload_n C dX0_findCheaper_3 rfl ?_
      refine v_get C dX0_findCheaper_4 fl_X0_34 rfl rfl ?_
      refine v_get C dX0_findCheaper_7 fl_X0_61 rfl rfl ?_
      refine v_icmp_ge C 35 dX0_findCheaper_10 (by decide) (fun _ => ?_) (fun q => absurd (nI_le (Nat.le_refl _) (by omega)) q)
      refine v_aload_n C dX0_findCheaper_35 rfl ?_
      refine v_get C dX0_findCheaper_36 fl_X0_38 rfl rfl ?_
      refine v_callV C dX0_findCheaper_39 lk_X0_91 (c_greatest (d := 1) (wo := fun k' => csum R (k' + 1) k) hn hW2 hw 134217728 (by decide) (by decide) h1 hy hbl (by decide)) (by omega) rfl rfl rfl rfl rfl (Nat.le_of_ble_eq_true rfl) ?_
      rintro o h' ⟨bl', pc', K, KP, k1, k2, k3, rfl, rfl⟩
      have hb := KOk_sm (w := w) (wo := fun k' => csum R (k' + 1) k) (n := k) (R := W) (M := 134217728) (by decide) hw1 hy k1.1 (fun r a b => by rw [← k1.2 r a b])
      have hkW := hb W (Nat.le_refl W)
      have hKW : Sm L62 (K W) := by
        have h5 : (W : Int) * 134217728 ≤ 60 * 134217728 := Int.mul_le_mul_of_nonneg_right (by omega) (by decide)
        unfold Sm L62
        omega
      have hDL : Sm L62 Dt := by unfold Sm L62 at *; omega
      have hbl0 : bl' 0 = 0 := by rw [k2 0 (Nat.zero_le W), k1.1]; rfl
      refine v_aload_n C dX0_findCheaper_42 rfl ?_
      refine v_get C dX0_findCheaper_43 fl_X0_23 rfl rfl ?_
      refine v_lcmp C dX0_findCheaper_46 ?_
      have hcm : (0 < lg_cmp (lI (K W)) dt) ↔ Dt < K W := by rw [lg_cmp_gt, hdt, lI_lt hDL hKW]
      by_cases hlt : Dt < K W
      · refine v_if_gt C 52 dX0_findCheaper_47 (by decide) (fun _ => ?_) (fun q => absurd (hcm.mpr hlt) q)
        refine v_aload_n C dX0_findCheaper_52 rfl ?_
        refine v_get C dX0_findCheaper_53 fl_X0_38 rfl rfl ?_
        refine v_aload_n C dX0_findCheaper_56 rfl ?_
        refine v_get C dX0_findCheaper_57 fl_X0_26 rfl rfl ?_
        refine v_callV C dX0_findCheaper_60 lk_X0_95 (c_copyPattern (d := 1) (N := (wl', bl', pc')) KP hn hW2 hw (fun r a b => ?_) k3 (by decide)) (by omega) rfl rfl rfl rfl rfl (Nat.le_of_ble_eq_true rfl) ?_
        · rcases fk_cs (w := w) (wo := fun k' => csum R (k' + 1) k) (K := K) (r := r) k with h | ⟨j, x, y, z⟩
          · have := k1.2 r a b
            rw [h] at this
            exact Or.inl (congrArg Prod.snd this)
          · have := k1.2 r a b
            rw [z] at this
            exact Or.inr ⟨j, x, y, congrArg Prod.snd this⟩
        rintro o h' ⟨rfl, e, he, rfl⟩
        have he31 : ∀ j, j < 4 → e j < 2 ^ 31 := fun j hj => by
          have key : ∀ (f r : Nat) (acc : Nat → Nat), ta w KP f r acc j ≤ acc j + f := by
            intro f
            induction f with
            | zero => intro r acc; exact Nat.le_refl _
            | succ f ih =>
              intro r acc
              unfold ta
              split
              · omega
              · split
                · have := ih (r - 1) acc; omega
                · have h8 := ih (r - w (KP r).toNatClampNeg) (va_up acc (KP r).toNatClampNeg (acc (KP r).toNatClampNeg + 1))
                  have h9 : va_up acc (KP r).toNatClampNeg (acc (KP r).toNatClampNeg + 1) j ≤ acc j + 1 := by
                    unfold va_up
                    split
                    · rename_i e9; rw [e9]; exact Nat.le_refl _
                    · exact Nat.le_succ _
                  omega
          have := key 60 W (fun _ => 0)
          rw [he j hj]
          omega
        refine v_iconst C (0) dX0_findCheaper_63 (by decide) ?_
        refine v_istore_n C dX0_findCheaper_64 (by decide) ?_
        refine shares (wl', bl', pc') e he31 (fun sh' hs => ?_) k 0 sh (by omega) (fun j hj => absurd hj (Nat.not_lt_zero j))
        refine v_iconst C (1) dX0_findCheaper_135 (by decide) ?_
        exact v_zret C E dX0_findCheaper_136 rfl ⟨(wl', bl', pc'), K, KP, hbl0, k1, Or.inr ⟨rfl, hlt, e, sh', he, hs, rfl⟩⟩
      · refine v_if_gt C 52 dX0_findCheaper_47 (by decide) (fun q => absurd q ((fun z => hlt (hcm.mp z)))) (fun _ => ?_)
        refine v_iconst C (0) dX0_findCheaper_50 (by decide) ?_
        exact v_zret C E dX0_findCheaper_51 rfl ⟨(wl', bl', pc'), K, KP, hbl0, k1, Or.inl ⟨rfl, by omega, rfl⟩⟩
    | succ m ih =>
      intro k wl' hk h1
      refine v_iload_n C dX0_findCheaper_2 rfl ?_
      refine v_aload_n C dX0_findCheaper_3 rfl ?_
      refine v_get C dX0_findCheaper_4 fl_X0_34 rfl rfl ?_
      refine v_get C dX0_findCheaper_7 fl_X0_61 rfl rfl ?_
      refine v_icmp_ge C 35 dX0_findCheaper_10 (by decide) (fun q => absurd q (nI_ge (by omega) (by omega))) (fun _ => ?_)
      refine v_aload_n C dX0_findCheaper_13 rfl ?_
      refine v_get C dX0_findCheaper_14 fl_X0_38 rfl rfl ?_
      refine v_get C dX0_findCheaper_17 fl_X0_82 rfl rfl ?_
      refine v_iload_n C dX0_findCheaper_20 rfl ?_
      refine v_aload_n C dX0_findCheaper_21 rfl ?_
      refine v_iload_n C dX0_findCheaper_22 rfl ?_
      refine v_iconst C (1) dX0_findCheaper_23 (by decide) ?_
      refine v_iadd C dX0_findCheaper_24 ?_
      refine v_callV C dX0_findCheaper_25 lk_X0_87 (c_columnSum (d := 0) (R := R) (k + 1) (by omega) hn (fun i hi => hR i (k + 1) hi (by omega))) (by omega) rfl rfl rfl rfl (by show [Value.int (nI k + nI 1), .ref 14, .int (nI k), .ref 11] = _; rw [nI_add]; rfl) (Nat.le_of_ble_eq_true rfl) ?_
      rintro o h' ⟨rfl, rfl⟩
      refine v_last C k dX0_findCheaper_28 rfl rfl (by omega) (by decide) ?_
      refine v_iinc C dX0_findCheaper_29 rfl (nI_1 k) (by decide) ?_
      refine v_goto C 2 dX0_findCheaper_32 (by decide) ?_
      refine ih (k + 1) (vp_updL wl' k (lI (csum R (k + 1) n))) (by omega) (fun j hj => ?_)
      by_cases ej : j = k
      · rw [ej]; exact if_pos rfl
      · rw [show vp_updL wl' k (lI (csum R (k + 1) n)) j = wl' j from if_neg ej]
        exact h1 j (by omega)
  refine v_iconst C (0) dX0_findCheaper_0 (by decide) ?_
  refine v_istore_n C dX0_findCheaper_1 (by decide) ?_
  exact worths n 0 wl (by omega) (fun j hj => absurd hj (Nat.not_lt_zero j))
/-- the rows behind an exchange -/
def exR (R : Nat → Nat → Int) (s : Nat → Int) (Dt : Int) (l i c : Nat) : Int := if i = l then R i c else (s l * R i c - s i * R l c).tdiv Dt
set_option maxHeartbeats 8000000 in
set_option maxRecDepth 100000 in
theorem c_exchange (s : Nat → Int) (Dt : Int) (l : Nat) (hl : l < n) (hn : n ≤ 4) (hR : ∀ i j, i < n → j ≤ n → ρ i j = lI (R i j)) (hRs : ∀ i j, i < n → j ≤ n → Sm 33554432 (R i j)) (hs : ∀ i, i < n → sh i = lI (s i)) (hss : ∀ i, i < n → Sm 536870912 (s i)) (hdt : dt = lI Dt) (hD0 : 0 < Dt) (hD : Dt ≤ 536870912) {N : SN} : Con yX0_exchange cX0_exchange 8 none d [.ref 14, .int (nI l)] (hC (jJ W n w q) Lf P N (fF tp bt dt ρ en sh) tl) (fun r h' => r = none ∧ ∃ ρ', (∀ i j, i < n → j ≤ n → ρ' i j = lI (exR R s Dt l i j)) ∧ h' = hC (jJ W n w q) Lf P N (fF tp bt (lI (s l)) ρ' en sh) tl) := by
  refine con_of [(0, .ref 14), (1, .int (nI l))] (by decide) (fun _ => Nat.le_of_ble_eq_true rfl) (fun _ => rfl) (fun X C E => ?_)
  have sm1 : ∀ a b : Int, Sm 536870912 a → Sm 33554432 b → Sm 18014398509481984 (a * b) := by
    intro a b ha hb
    have h := sm_mul (by decide) (by decide) ha hb
    have h4 : (536870912 * 33554432 : Int) = 18014398509481984 := by decide
    rw [h4] at h
    exact h
  have hDL : Sm L62 Dt := by unfold Sm L62; omega
  have hne : ¬ dt = 0 := by
    rw [hdt, show (0 : Int64) = lI 0 from rfl, lI_eq hDL (by unfold Sm L62; omega)]
    omega
  have rows : ∀ (m i : Nat) (ρ' : Nat → Nat → Int64), i + m = n → (∀ k j, k < i → j ≤ n → ρ' k j = lI (exR R s Dt l k j)) → (∀ k j, i ≤ k → k < n → j ≤ n → ρ' k j = lI (R k j)) → (∀ j, j ≤ n → ρ' l j = lI (R l j)) → V 8 X (hC (jJ W n w q) Lf P N (fF tp bt dt ρ' en sh) tl) 10 [(0, .ref 14), (1, .int (nI l)), (2, .long (lI (s l))), (4, .int (nI i))] [] := by
    intro m
    induction m with
    | zero =>
      intro i ρ' hi h1 h2 h3
      obtain rfl : i = n := by omega
      refine v_iload C dX0_exchange_10 rfl ?_
      refine v_aload_n C dX0_exchange_12 rfl ?_
      refine v_get C dX0_exchange_13 fl_X0_34 rfl rfl ?_
      refine v_get C dX0_exchange_16 fl_X0_61 rfl rfl ?_
      refine v_icmp_ge C 104 dX0_exchange_19 (by decide) (fun _ => ?_) (fun q => absurd (nI_le (Nat.le_refl _) (by omega)) q)
      refine v_aload_n C dX0_exchange_104 rfl ?_
      refine v_lload_n C dX0_exchange_105 rfl ?_
      refine v_put C dX0_exchange_106 fp_X0_23 rfl (fun _ => rfl) (fun _ => rfl) (Nat.le_of_ble_eq_true rfl) ?_
      exact v_vret C E dX0_exchange_109 ⟨rfl, ρ', h1, rfl⟩
    | succ m ih =>
      intro i ρ' hi h1 h2 h3
      have hi4 : i < 4 := by omega
      have nexti : ∀ (ρ' : Nat → Nat → Int64), (∀ k j, k < i + 1 → j ≤ n → ρ' k j = lI (exR R s Dt l k j)) → (∀ k j, i + 1 ≤ k → k < n → j ≤ n → ρ' k j = lI (R k j)) → (∀ j, j ≤ n → ρ' l j = lI (R l j)) → V 8 X (hC (jJ W n w q) Lf P N (fF tp bt dt ρ' en sh) tl) 98 [(0, .ref 14), (1, .int (nI l)), (2, .long (lI (s l))), (4, .int (nI i))] [] := by
        intro ρ' g1 g2 g3
        refine v_iinc C dX0_exchange_98 rfl (nI_1 i) (by decide) ?_
        refine v_goto C 10 dX0_exchange_101 (by decide) ?_
        exact ih (i + 1) ρ' (by omega) g1 g2 g3
      refine v_iload C dX0_exchange_10 rfl ?_
      refine v_aload_n C dX0_exchange_12 rfl ?_
      refine v_get C dX0_exchange_13 fl_X0_34 rfl rfl ?_
      refine v_get C dX0_exchange_16 fl_X0_61 rfl rfl ?_
      refine v_icmp_ge C 104 dX0_exchange_19 (by decide) (fun q => absurd q (nI_ge (by omega) (by omega))) (fun _ => ?_)
      refine v_iload C dX0_exchange_22 rfl ?_
      refine v_iload_n C dX0_exchange_24 rfl ?_
      by_cases el : i = l
      · subst el
        refine v_icmp_eq C 98 dX0_exchange_25 (by decide) (fun _ => ?_) (fun q => absurd (rfl) q)
        refine nexti ρ' (fun k j hk hj => ?_) (fun k j a b c => h2 k j (by omega) b c) h3
        by_cases ek : k = i
        · rw [ek, h3 j hj]
          unfold exR
          rw [if_pos rfl]
        · exact h1 k j (by omega) hj
      · refine v_icmp_eq C 98 dX0_exchange_25 (by decide) (fun q => absurd q ((fun z => el ((nI_eq (by omega) (by omega)).mp z)))) (fun _ => ?_)
        have cols : ∀ (m' c : Nat) (ρ' : Nat → Nat → Int64), c + m' = n + 1 → (∀ k j, k < i → j ≤ n → ρ' k j = lI (exR R s Dt l k j)) → (∀ k j, i + 1 ≤ k → k < n → j ≤ n → ρ' k j = lI (R k j)) → (∀ j, j ≤ n → ρ' l j = lI (R l j)) → (∀ j, j < c → ρ' i j = lI (exR R s Dt l i j)) → (∀ j, c ≤ j → j ≤ n → ρ' i j = lI (R i j)) → V 8 X (hC (jJ W n w q) Lf P N (fF tp bt dt ρ' en sh) tl) 31 [(0, .ref 14), (1, .int (nI l)), (2, .long (lI (s l))), (4, .int (nI i)), (5, .int (nI c))] [] := by
          intro m'
          induction m' with
          | zero =>
            intro c ρ' hc g1 g2 g3 g4 g5
            refine v_iload C dX0_exchange_31 rfl ?_
            refine v_aload_n C dX0_exchange_33 rfl ?_
            refine v_get C dX0_exchange_34 fl_X0_34 rfl rfl ?_
            refine v_get C dX0_exchange_37 fl_X0_61 rfl rfl ?_
            refine v_icmp_gt C 98 dX0_exchange_40 (by decide) (fun _ => ?_) (fun q => absurd (nI_lt (by omega) (by omega)) q)
            refine v_keep [0, 1, 2, 4] (nexti ρ' (fun k j hk hj => ?_) g2 g3)
            by_cases ek : k = i
            · rw [ek]; exact g4 j (by omega)
            · exact g1 k j (by omega) hj
          | succ m' ih' =>
            intro c ρ' hc g1 g2 g3 g4 g5
            refine v_iload C dX0_exchange_31 rfl ?_
            refine v_aload_n C dX0_exchange_33 rfl ?_
            refine v_get C dX0_exchange_34 fl_X0_34 rfl rfl ?_
            refine v_get C dX0_exchange_37 fl_X0_61 rfl rfl ?_
            refine v_icmp_gt C 98 dX0_exchange_40 (by decide) (fun q => absurd q (nI_nlt (by omega) (by omega))) (fun _ => ?_)
            refine v_lload_n C dX0_exchange_43 rfl ?_
            refine v_aload_n C dX0_exchange_44 rfl ?_
            refine v_get C dX0_exchange_45 fl_X0_20 rfl rfl ?_
            refine v_iload C dX0_exchange_48 rfl ?_
            refine v_aald C i dX0_exchange_50 rfl rfl hi4 (by decide) (rowF_at i hi4) ?_
            refine v_iload C dX0_exchange_51 rfl ?_
            refine v_lald C c dX0_exchange_53 (row_get i hi4) rfl (by omega) (by decide) ?_
            refine v_lmul C dX0_exchange_54 ?_
            refine v_aload_n C dX0_exchange_55 rfl ?_
            refine v_get C dX0_exchange_56 fl_X0_30 rfl rfl ?_
            refine v_iload C dX0_exchange_59 rfl ?_
            refine v_lald C i dX0_exchange_61 rfl rfl hi4 (by decide) ?_
            refine v_aload_n C dX0_exchange_62 rfl ?_
            refine v_get C dX0_exchange_63 fl_X0_20 rfl rfl ?_
            refine v_iload_n C dX0_exchange_66 rfl ?_
            refine v_aald C l dX0_exchange_67 rfl rfl (by omega) (by decide) (rowF_at l (by omega)) ?_
            refine v_iload C dX0_exchange_68 rfl ?_
            refine v_lald C c dX0_exchange_70 (row_get l (by omega)) rfl (by omega) (by decide) ?_
            refine v_lmul C dX0_exchange_71 ?_
            refine v_lsub C dX0_exchange_72 ?_
            refine v_lstore C dX0_exchange_73 (by decide) ?_
            refine v_aload_n C dX0_exchange_75 rfl ?_
            refine v_get C dX0_exchange_76 fl_X0_20 rfl rfl ?_
            refine v_iload C dX0_exchange_79 rfl ?_
            refine v_aald C i dX0_exchange_81 rfl rfl hi4 (by decide) (rowF_at i hi4) ?_
            refine v_iload C dX0_exchange_82 rfl ?_
            refine v_lload C dX0_exchange_84 rfl ?_
            refine v_aload_n C dX0_exchange_86 rfl ?_
            refine v_get C dX0_exchange_87 fl_X0_23 rfl rfl ?_
            refine v_ldiv C dX0_exchange_90 hne ?_
            have a1 := sm1 _ _ (hss l hl) (hRs i c (by omega) (by omega))
            have a2 := sm1 _ _ (hss i (by omega)) (hRs l c hl (by omega))
            have ev : (lI (s l) * ρ' i c - sh i * ρ' l c) / dt = lI (exR R s Dt l i c) := by
              rw [g5 c (Nat.le_refl c) (by omega), g3 c (by omega), hs i (by omega), lI_mul, lI_mul, lI_sub, hdt, lI_div (by unfold Sm L62 at *; omega) hDL hD0]
              unfold exR
              rw [if_neg el]
            refine v_eq (st' := [.long (lI (exR R s Dt l i c)), .int (nI c), .ref (16 + i)]) ?_ rfl rfl rfl (congrArg (fun z => [Value.long z, .int (nI c), .ref (16 + i)]) ev)
            refine v_last C c dX0_exchange_91 (row_get i hi4) rfl (by omega) (by decide) ?_
            rw [row_set _ i hi4]
            refine v_iinc C dX0_exchange_92 rfl (nI_1 c) (by decide) ?_
            refine v_goto C 31 dX0_exchange_95 (by decide) ?_
            have hoi : ∀ k, k ≠ i → va_up ρ' i (vp_updL (ρ' i) c (lI (exR R s Dt l i c))) k = ρ' k := fun k hk => if_neg hk
            have hii : va_up ρ' i (vp_updL (ρ' i) c (lI (exR R s Dt l i c))) i = vp_updL (ρ' i) c (lI (exR R s Dt l i c)) := if_pos rfl
            refine v_keep [0, 1, 2, 4, 5] (ih' (c + 1) _ (by omega) (fun k j hk hj => ?_) (fun k j a b e => ?_) (fun j hj => ?_) (fun j hj => ?_) (fun j a b => ?_))
            · rw [hoi k (by omega)]; exact g1 k j hk hj
            · rw [hoi k (by omega)]; exact g2 k j a b e
            · rw [hoi l (fun z => el z.symm)]; exact g3 j hj
            · rw [hii]
              by_cases ej : j = c
              · rw [ej]; exact if_pos rfl
              · rw [show vp_updL (ρ' i) c (lI (exR R s Dt l i c)) j = ρ' i j from if_neg ej]; exact g4 j (by omega)
            · rw [hii, show vp_updL (ρ' i) c (lI (exR R s Dt l i c)) j = ρ' i j from if_neg (by omega)]
              exact g5 j (by omega) b
        refine v_iconst C (0) dX0_exchange_28 (by decide) ?_
        refine v_istore C dX0_exchange_29 (by decide) ?_
        exact cols (n + 1) 0 ρ' (by omega) h1 (fun k j a b c => h2 k j (by omega) b c) h3 (fun j hj => absurd hj (Nat.not_lt_zero j)) (fun j _ hj => h2 i j (Nat.le_refl i) (by omega) hj)
  refine v_aload_n C dX0_exchange_0 rfl ?_
  refine v_get C dX0_exchange_1 fl_X0_30 rfl rfl ?_
  refine v_iload_n C dX0_exchange_4 rfl ?_
  refine v_lald C l dX0_exchange_5 rfl rfl (by omega) (by decide) ?_
  refine v_eq (st' := [.long (lI (s l))]) ?_ rfl rfl rfl (congrArg (fun z => [Value.long z]) (hs l hl))
  refine v_lstore_n C dX0_exchange_6 (by decide) ?_
  refine v_iconst C (0) dX0_exchange_7 (by decide) ?_
  refine v_istore C dX0_exchange_8 (by decide) ?_
  exact rows n 0 ρ (by omega) (fun k j hk => absurd hk (Nat.not_lt_zero k)) (fun k j _ a b => hR k j a b) (fun j hj => hR l j hl hj)
end FLOOR3
