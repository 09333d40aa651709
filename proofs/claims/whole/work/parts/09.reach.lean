/-! Reach -/
def pl (W r x : Nat) : Nat := if r % W + x ≤ W then r + x else r - r % W + W + x
def cl (W r : Nat) : Nat := (r + W - 1) / W
theorem nI_dv {a b : Nat} (ha : a < 2 ^ 31) (h0 : 0 < b) (hb : b < 2 ^ 31) : nI a / nI b = nI (a / b) := pk_div ha h0 hb
theorem nI_rm {a b : Nat} (ha : a < 2 ^ 31) (h0 : 0 < b) (hb : b < 2 ^ 31) : nI a - nI a / nI b * nI b = nI (a % b) := pk_rem ha h0 hb
def st7 (k : Nat) : Nat := match k with
  | 0 => 1
  | 1 => 7
  | 2 => 49
  | 3 => 343
  | _ => 2401
theorem stI_nI (k : Nat) : stI k = nI (st7 k) := match k with
  | 0 => rfl
  | 1 => rfl
  | 2 => rfl
  | 3 => rfl
  | _ + 4 => rfl
theorem st7_pos (k : Nat) : 0 < st7 k := by
  unfold st7
  split <;> decide
theorem st7_le (k : Nat) : st7 k ≤ 2401 := by
  unfold st7
  split <;> decide
/-- leastOf after its first m kinds -/
def lo (W : Nat) (w l : Nat → Nat) (c : Nat) : Nat → Nat
  | 0 => 1440
  | k + 1 => if 0 < c / st7 k % 7 then min (lo W w l c k) (pl W (l (c - st7 k)) (w k)) else lo W w l c k
theorem lo_le (W : Nat) (w l : Nat → Nat) (c : Nat) : ∀ m, lo W w l c m ≤ 1440
  | 0 => Nat.le_refl _
  | k + 1 => by
    unfold lo
    split
    · exact Nat.le_trans (Nat.min_le_left _ _) (lo_le W w l c k)
    · exact lo_le W w l c k
theorem dig_le {c k : Nat} (h : 0 < c / st7 k % 7) : st7 k ≤ c := by
  apply Nat.le_of_not_lt
  intro q
  rw [Nat.div_eq_of_lt q] at h
  exact absurd h (by decide)
theorem lo_congr {W : Nat} {w l l' : Nat → Nat} {c : Nat} (h : ∀ j, j < c → l j = l' j) : ∀ m, lo W w l c m = lo W w l' c m
  | 0 => rfl
  | k + 1 => by
    unfold lo
    rw [lo_congr h k]
    by_cases e : 0 < c / st7 k % 7
    · have h1 := dig_le e
      have h2 := st7_pos k
      rw [if_pos e, if_pos e, h (c - st7 k) (by omega)]
    · rw [if_neg e, if_neg e]
theorem mn_eq {a b : Nat} (ha : a < 2 ^ 31) (hb : b < 2 ^ 31) : (if nI b < nI a then nI b else nI a) = nI (min a b) := by
  by_cases e : b < a
  · rw [if_pos (nI_lt e ha), Nat.min_eq_right (Nat.le_of_lt e)]
  · rw [if_neg (nI_nlt (Nat.not_lt.mp e) hb), Nat.min_eq_left (Nat.not_lt.mp e)]
theorem pl_le (W r x : Nat) : pl W r x ≤ r + W + x := by
  unfold pl
  split <;> omega
section REACH
variable {W n : Nat} {w q l : Nat → Nat} {P : SP} {N : SN} {F : SF} {tl : List PC} {d : Nat}
set_option maxHeartbeats 4000000 in
set_option maxRecDepth 100000 in
theorem c_fewest (c : Nat) (hc : c < 2401) (hW : 0 < W) (hW2 : W ≤ 60) (hl : l c ≤ 1440) : Con yX4_fewest cX4_fewest 2 (some .int) d [.ref 4, .int (nI c)] (hC (jJ W n w q) (iN l) P N F tl) (fun r h' => r = some (.int (nI (cl W (l c)))) ∧ h' = hC (jJ W n w q) (iN l) P N F tl) := by
  refine con_of [(0, .ref 4), (1, .int (nI c))] (by decide) (fun _ => Nat.le_of_ble_eq_true rfl) (fun _ => rfl) (fun X C E => ?_)
  refine v_aload_n C dX4_fewest_0 rfl ?_
  refine v_get C dX4_fewest_1 fl_X4_13 rfl rfl ?_
  refine v_iload_n C dX4_fewest_4 rfl ?_
  refine v_iald C c dX4_fewest_5 rfl rfl hc (by decide) ?_
  refine v_aload_n C dX4_fewest_6 rfl ?_
  refine v_get C dX4_fewest_7 fl_X4_18 rfl rfl ?_
  refine v_get C dX4_fewest_10 fl_X4_22 rfl rfl ?_
  refine v_iadd C dX4_fewest_13 ?_
  refine v_iconst C (1) dX4_fewest_14 (by decide) ?_
  refine v_isub C dX4_fewest_15 ?_
  refine v_aload_n C dX4_fewest_16 rfl ?_
  refine v_get C dX4_fewest_17 fl_X4_18 rfl rfl ?_
  refine v_get C dX4_fewest_20 fl_X4_22 rfl rfl ?_
  refine v_idiv C dX4_fewest_23 (nI_ne0 hW (by omega)) ?_
  refine v_iret C E dX4_fewest_24 ⟨?_, rfl⟩
  show some (Value.int ((nI (l c) + nI W - nI 1) / nI W)) = _
  rw [nI_add, pk_sub (by omega), nI_dv (by omega) hW (by omega)]
  rfl
set_option maxHeartbeats 4000000 in
set_option maxRecDepth 100000 in
theorem c_placed (r x : Nat) (hr : r ≤ 1440) (hx : x ≤ 60) (hW : 0 < W) (hW2 : W ≤ 60) : Con yX4_placed cX4_placed 4 (some .int) d [.ref 4, .int (nI r), .int (nI x)] (hC (jJ W n w q) (iN l) P N F tl) (fun o h' => o = some (.int (nI (pl W r x))) ∧ h' = hC (jJ W n w q) (iN l) P N F tl) := by
  refine con_of [(0, .ref 4), (1, .int (nI r)), (2, .int (nI x))] (by decide) (fun _ => Nat.le_of_ble_eq_true rfl) (fun _ => rfl) (fun X C E => ?_)
  have e : nI r - nI r / nI W * nI W = nI (r % W) := nI_rm (by omega) hW (by omega)
  have hm : r % W < W := Nat.mod_lt r hW
  have hm2 : r % W ≤ r := Nat.mod_le r W
  refine v_iload_n C dX4_placed_0 rfl ?_
  refine v_aload_n C dX4_placed_1 rfl ?_
  refine v_get C dX4_placed_2 fl_X4_18 rfl rfl ?_
  refine v_get C dX4_placed_5 fl_X4_22 rfl rfl ?_
  refine v_irem C dX4_placed_8 (nI_ne0 hW (by omega)) ?_
  refine v_eq (st' := [.int (nI (r % W))]) ?_ rfl rfl rfl (congrArg (fun z => [Value.int z]) e)
  refine v_istore_n C dX4_placed_9 (by decide) ?_
  refine v_iload_n C dX4_placed_10 rfl ?_
  refine v_iload_n C dX4_placed_11 rfl ?_
  refine v_iadd C dX4_placed_12 ?_
  refine v_aload_n C dX4_placed_13 rfl ?_
  refine v_get C dX4_placed_14 fl_X4_18 rfl rfl ?_
  refine v_get C dX4_placed_17 fl_X4_22 rfl rfl ?_
  refine v_icmp_le C 37 dX4_placed_20 (by decide) (fun c1 => ?_) (fun c1 => ?_)
  · have c2 : r % W + x ≤ W := (nI_leI (by omega) (by omega)).mp (by rw [← nI_add]; exact c1)
    refine v_iload_n C dX4_placed_37 rfl ?_
    refine v_iload_n C dX4_placed_38 rfl ?_
    refine v_iadd C dX4_placed_39 ?_
    refine v_iret C E dX4_placed_40 ⟨?_, rfl⟩
    show some (Value.int (nI r + nI x)) = _
    rw [nI_add]
    unfold pl
    rw [if_pos c2]
  · have c2 : ¬ r % W + x ≤ W := fun z => c1 (by show nI (r % W) + nI x ≤ nI W; rw [nI_add]; exact nI_le z (by omega))
    refine v_iload_n C dX4_placed_23 rfl ?_
    refine v_iload_n C dX4_placed_24 rfl ?_
    refine v_isub C dX4_placed_25 ?_
    refine v_aload_n C dX4_placed_26 rfl ?_
    refine v_get C dX4_placed_27 fl_X4_18 rfl rfl ?_
    refine v_get C dX4_placed_30 fl_X4_22 rfl rfl ?_
    refine v_iadd C dX4_placed_33 ?_
    refine v_iload_n C dX4_placed_34 rfl ?_
    refine v_iadd C dX4_placed_35 ?_
    refine v_iret C E dX4_placed_36 ⟨?_, rfl⟩
    show some (Value.int (nI r - nI (r % W) + nI W + nI x)) = _
    rw [pk_sub hm2, nI_add, nI_add]
    unfold pl
    rw [if_neg c2]
set_option maxHeartbeats 4000000 in
set_option maxRecDepth 100000 in
theorem c_leastOf (c nw : Nat) (hc : c < 2401) (hnw : nw < 4) (hW : 0 < W) (hW2 : W ≤ 60) (hw : ∀ k, k ≤ nw → w k ≤ 60) (hl : ∀ j, j < 2401 → l j ≤ 1440) (hd : 1 ≤ d) : Con yX4_leastOf cX4_leastOf 5 (some .int) d [.ref 4, .int (nI c), .int (nI nw)] (hC (jJ W n w q) (iN l) P N F tl) (fun o h' => o = some (.int (nI (lo W w l c (nw + 1)))) ∧ h' = hC (jJ W n w q) (iN l) P N F tl) := by
  refine con_of [(0, .ref 4), (1, .int (nI c)), (2, .int (nI nw))] (by decide) (fun _ => Nat.le_of_ble_eq_true rfl) (fun _ => rfl) (fun X C E => ?_)
  have key : ∀ (m k : Nat), k + m = nw + 1 → V 5 X (hC (jJ W n w q) (iN l) P N F tl) 7 [(0, .ref 4), (1, .int (nI c)), (2, .int (nI nw)), (3, .int (nI (lo W w l c k))), (4, .int (nI k))] [] := by
    intro m
    induction m with
    | zero =>
      intro k hk
      refine v_iload C dX4_leastOf_7 rfl ?_
      refine v_iload_n C dX4_leastOf_9 rfl ?_
      refine v_icmp_gt C 65 dX4_leastOf_10 (by decide) (fun _ => ?_) (fun q => absurd (nI_lt (by omega) (by omega)) q)
      refine v_iload_n C dX4_leastOf_65 rfl ?_
      refine v_iret C E dX4_leastOf_66 ⟨?_, rfl⟩
      rw [show nw + 1 = k by omega]
    | succ m ih =>
      intro k hk
      have hlo := lo_le W w l c k
      have h7 := st7_pos k
      have h8 := st7_le k
      refine v_iload C dX4_leastOf_7 rfl ?_
      refine v_iload_n C dX4_leastOf_9 rfl ?_
      refine v_icmp_gt C 65 dX4_leastOf_10 (by decide) (fun q => absurd q (nI_nlt (by omega) (by omega))) (fun _ => ?_)
      refine v_iload_n C dX4_leastOf_13 rfl ?_
      refine v_getSN C dX4_leastOf_14 (fun _ q => q.2.1) ?_
      refine v_iload C dX4_leastOf_17 rfl ?_
      refine v_step C k dX4_leastOf_19 rfl (by omega) ?_
      refine v_idiv C dX4_leastOf_20 (by rw [stI_nI]; exact nI_ne0 h7 (by omega)) ?_
      refine v_bipush C (7) dX4_leastOf_21 (by decide) ?_
      refine v_irem C dX4_leastOf_23 (by decide) ?_
      have e : (nI c / stI k) - (nI c / stI k) / 7 * 7 = nI (c / st7 k % 7) := by
        rw [stI_nI, nI_dv (by omega) h7 (by omega)]
        exact nI_rm (Nat.lt_of_le_of_lt (Nat.div_le_self _ _) (by omega)) (by decide) (by decide)
      have hdg : c / st7 k % 7 < 7 := Nat.mod_lt _ (by decide)
      refine v_eq (st' := [.int (nI (c / st7 k % 7))]) ?_ rfl rfl rfl (congrArg (fun z => [Value.int z]) e)
      refine v_if_le C 59 dX4_leastOf_24 (by decide) (fun c1 => ?_) (fun c1 => ?_)
      · have c2 : ¬ 0 < c / st7 k % 7 := fun z => absurd c1 (nI_nle z (by omega))
        refine v_iinc C dX4_leastOf_59 rfl (nI_1 k) (by decide) ?_
        refine v_goto C 7 dX4_leastOf_62 (by decide) ?_
        refine v_eq (ih (k + 1) (by omega)) rfl rfl ?_ rfl
        show [(0, Value.ref 4), (1, .int (nI c)), (2, .int (nI nw)), (3, .int (nI (lo W w l c k))), (4, .int (nI (k + 1)))] = _
        rw [show lo W w l c (k + 1) = lo W w l c k from if_neg c2]
      · have c2 : 0 < c / st7 k % 7 := Nat.pos_of_ne_zero (fun z => c1 (by rw [z]; decide))
        have hst := dig_le c2
        refine v_iload_n C dX4_leastOf_27 rfl ?_
        refine v_aload_n C dX4_leastOf_28 rfl ?_
        refine v_aload_n C dX4_leastOf_29 rfl ?_
        refine v_get C dX4_leastOf_30 fl_X4_13 rfl rfl ?_
        refine v_iload_n C dX4_leastOf_33 rfl ?_
        refine v_getSN C dX4_leastOf_34 (fun _ q => q.2.1) ?_
        refine v_iload C dX4_leastOf_37 rfl ?_
        refine v_step C k dX4_leastOf_39 rfl (by omega) ?_
        refine v_isub C dX4_leastOf_40 ?_
        have e3 : nI c - stI k = nI (c - st7 k) := by rw [stI_nI, pk_sub hst]
        refine v_iald C (c - st7 k) dX4_leastOf_41 rfl e3 (by omega) (by decide) ?_
        refine v_aload_n C dX4_leastOf_42 rfl ?_
        refine v_get C dX4_leastOf_43 fl_X4_18 rfl rfl ?_
        refine v_get C dX4_leastOf_46 fl_X4_32 rfl rfl ?_
        refine v_iload C dX4_leastOf_49 rfl ?_
        refine v_iald C k dX4_leastOf_51 rfl rfl (by omega) (by decide) ?_
        refine v_callV C dX4_leastOf_52 lk_X4_35 (c_placed (d := 0) (l (c - st7 k)) (w k) (hl _ (by omega)) (hw k (by omega)) hW hW2) hd rfl rfl rfl rfl rfl (Nat.le_of_ble_eq_true rfl) ?_
        rintro r h' ⟨rfl, rfl⟩
        have hp := pl_le W (l (c - st7 k)) (w k)
        have hl2 := hl (c - st7 k) (by omega)
        have hw2 := hw k (by omega)
        refine v_min C dX4_leastOf_55 hd (by decide +kernel) (Nat.le_of_ble_eq_true rfl) ?_
        refine v_eq (st' := [.int (nI (min (lo W w l c k) (pl W (l (c - st7 k)) (w k))))]) ?_ rfl rfl rfl (congrArg (fun z => [Value.int z]) (mn_eq (by omega) (by omega)))
        refine v_istore_n C dX4_leastOf_58 (by decide) ?_
        refine v_iinc C dX4_leastOf_59 rfl (nI_1 k) (by decide) ?_
        refine v_goto C 7 dX4_leastOf_62 (by decide) ?_
        refine v_eq (ih (k + 1) (by omega)) rfl rfl ?_ rfl
        show [(0, Value.ref 4), (1, .int (nI c)), (2, .int (nI nw)), (3, .int (nI (min (lo W w l c k) (pl W (l (c - st7 k)) (w k))))), (4, .int (nI (k + 1)))] = _
        rw [show lo W w l c (k + 1) = min (lo W w l c k) (pl W (l (c - st7 k)) (w k)) from if_pos c2]
  refine v_sipush C (1440) dX4_leastOf_0 (by decide) ?_
  refine v_istore_n C dX4_leastOf_3 (by decide) ?_
  refine v_iconst C (0) dX4_leastOf_4 (by decide) ?_
  refine v_istore C dX4_leastOf_5 (by decide) ?_
  exact key (nw + 1) 0 (by omega)
set_option maxHeartbeats 4000000 in
set_option maxRecDepth 100000 in
/-- extendTo: the codes of the newest kind are learnt anew, the others stay -/
theorem c_extendTo (nw : Nat) (hnw : nw < 4) (hW : 0 < W) (hW2 : W ≤ 60) (hw : ∀ k, k ≤ nw → w k ≤ 60) (hl : ∀ j, j < 2401 → l j ≤ 1440) (hd : 2 ≤ d) : Con yX4_extendTo cX4_extendTo 3 none d [.ref 4, .int (nI nw)] (hC (jJ W n w q) (iN l) P N F tl) (fun o h' => o = none ∧ ∃ l' : Nat → Nat, (∀ j, j < 2401 → l' j ≤ 1440) ∧ (∀ j, j < st7 nw → l' j = l j) ∧ (∀ j, st7 nw ≤ j → j < st7 (nw + 1) → l' j = lo W w l' j (nw + 1)) ∧ h' = hC (jJ W n w q) (iN l') P N F tl) := by
  refine con_of [(0, .ref 4), (1, .int (nI nw))] (by decide) (fun _ => Nat.le_of_ble_eq_true rfl) (fun _ => rfl) (fun X C E => ?_)
  have h9 := st7_le (nw + 1)
  have key : ∀ (m c : Nat) (l' : Nat → Nat), c + m = st7 (nw + 1) → st7 nw ≤ c → (∀ j, j < 2401 → l' j ≤ 1440) → (∀ j, j < st7 nw → l' j = l j) → (∀ j, st7 nw ≤ j → j < c → l' j = lo W w l' j (nw + 1)) → V 3 X (hC (jJ W n w q) (iN l') P N F tl) 6 [(0, .ref 4), (1, .int (nI nw)), (2, .int (nI c))] [] := by
    intro m
    induction m with
    | zero =>
      intro c l' hc hc2 h1 h2 h3
      refine v_iload_n C dX4_extendTo_6 rfl ?_
      refine v_getSN C dX4_extendTo_7 (fun _ q => q.2.1) ?_
      refine v_iload_n C dX4_extendTo_10 rfl ?_
      refine v_iconst C (1) dX4_extendTo_11 (by decide) ?_
      refine v_iadd C dX4_extendTo_12 ?_
      refine v_step C (nw + 1) dX4_extendTo_13 (nI_1 nw) (by omega) ?_
      refine v_icmp_ge C 35 dX4_extendTo_14 (by decide) (fun _ => ?_) (fun z => absurd (by rw [stI_nI]; exact nI_le (by omega) (by omega)) z)
      exact v_vret C E dX4_extendTo_35 ⟨rfl, l', h1, h2, fun j h4 h5 => h3 j h4 (by omega), rfl⟩
    | succ m ih =>
      intro c l' hc hc2 h1 h2 h3
      refine v_iload_n C dX4_extendTo_6 rfl ?_
      refine v_getSN C dX4_extendTo_7 (fun _ q => q.2.1) ?_
      refine v_iload_n C dX4_extendTo_10 rfl ?_
      refine v_iconst C (1) dX4_extendTo_11 (by decide) ?_
      refine v_iadd C dX4_extendTo_12 ?_
      refine v_step C (nw + 1) dX4_extendTo_13 (nI_1 nw) (by omega) ?_
      refine v_icmp_ge C 35 dX4_extendTo_14 (by decide) (fun z => absurd (by rw [stI_nI] at z; exact z) (nI_ge (a := c) (b := st7 (nw + 1)) (by omega) (by omega))) (fun _ => ?_)
      refine v_aload_n C dX4_extendTo_17 rfl ?_
      refine v_get C dX4_extendTo_18 fl_X4_13 rfl rfl ?_
      refine v_iload_n C dX4_extendTo_21 rfl ?_
      refine v_aload_n C dX4_extendTo_22 rfl ?_
      refine v_iload_n C dX4_extendTo_23 rfl ?_
      refine v_iload_n C dX4_extendTo_24 rfl ?_
      refine v_callV C dX4_extendTo_25 lk_X4_28 (c_leastOf (d := 1) c nw (by omega) hnw hW hW2 hw h1 (by decide)) hd rfl rfl rfl rfl rfl (Nat.le_of_ble_eq_true rfl) ?_
      rintro r h' ⟨rfl, rfl⟩
      refine v_iast C c dX4_extendTo_28 rfl rfl (by omega) (by decide) ?_
      refine v_iinc C dX4_extendTo_29 rfl (nI_1 c) (by decide) ?_
      refine v_goto C 6 dX4_extendTo_32 (by decide) ?_
      refine v_eq (ih (c + 1) (va_up l' c (lo W w l' c (nw + 1))) (by omega) (by omega) ?_ ?_ ?_) ?_ rfl rfl rfl
      · intro j hj
        unfold va_up
        split
        · exact lo_le _ _ _ _ _
        · exact h1 j hj
      · intro j hj
        unfold va_up
        rw [if_neg (by omega)]
        exact h2 j hj
      · intro j h4 h5
        have hcg : ∀ i, i < j → l' i = va_up l' c (lo W w l' c (nw + 1)) i := by
          intro i hi
          unfold va_up
          rw [if_neg (by omega)]
        rw [← lo_congr hcg]
        unfold va_up
        by_cases e : j = c
        · rw [if_pos e, e]
        · rw [if_neg e]
          exact h3 j h4 (by omega)
      · show hC (jJ W n w q) (upd (iN l') c (nI (lo W w l' c (nw + 1)))) P N F tl = _
        rw [upd_iN]
  refine v_getSN C dX4_extendTo_0 (fun _ q => q.2.1) ?_
  refine v_iload_n C dX4_extendTo_3 rfl ?_
  refine v_step C nw dX4_extendTo_4 rfl (by omega) ?_
  refine v_istore_n C dX4_extendTo_5 (by decide) ?_
  have h7 : st7 nw ≤ st7 (nw + 1) := by
    match nw, hnw with
    | 0, _ => decide
    | 1, _ => decide
    | 2, _ => decide
    | 3, _ => decide
  refine v_eq (key (st7 (nw + 1) - st7 nw) (st7 nw) l (by omega) (Nat.le_refl _) hl (fun _ _ => rfl) (fun j h4 h5 => absurd h5 (by omega))) rfl rfl ?_ rfl
  show [(0, Value.ref 4), (1, .int (nI nw)), (2, .int (stI nw))] = _
  rw [stI_nI]
end REACH
