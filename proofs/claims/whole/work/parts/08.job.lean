/-! Job: rollWidth W, kinds n, widths w, demands q, as natural numbers -/
def jJ (W n : Nat) (w q : Nat → Nat) : SJ := (nI W, nI n, fun i => nI (w i), fun i => nI (q i))
def iN (f : Nat → Nat) : Nat → Int32 := fun i => nI (f i)
theorem upd_iN (f : Nat → Nat) (j x : Nat) : upd (iN f) j (nI x) = iN (va_up f j x) := by
  funext i
  unfold upd iN va_up
  by_cases e : i = j
  · rw [if_pos e, if_pos e]
  · rw [if_neg e, if_neg e]
section JOB
variable {W n : Nat} {w q : Nat → Nat} {L : Nat → Int32} {P : SP} {N : SN} {F : SF} {tl : List PC} {d : Nat}
set_option maxHeartbeats 4000000 in
set_option maxRecDepth 100000 in
theorem c_has (x : Int32) : Con yX1_has cX1_has 2 (some .boolean) d [.ref 1, .int x] (hC (jJ W n w q) L P N F tl) (fun r h' => r = some (.int (if ¬ x < 0 ∧ x < nI n then 1 else 0)) ∧ h' = hC (jJ W n w q) L P N F tl) := by
  refine con_of [(0, .ref 1), (1, .int x)] (by decide) (fun _ => Nat.le_of_ble_eq_true rfl) (fun _ => rfl) (fun X C E => ?_)
  refine v_iload_n C dX1_has_0 rfl ?_
  refine v_if_lt C 16 dX1_has_1 (by decide) (fun c1 => ?_) (fun c1 => ?_)
  · refine v_iconst C (0) dX1_has_16 (by decide) ?_
    exact v_zret C E dX1_has_17 rfl ⟨by rw [if_neg (fun z => z.1 c1)], rfl⟩
  · refine v_iload_n C dX1_has_4 rfl ?_
    refine v_aload_n C dX1_has_5 rfl ?_
    refine v_get C dX1_has_6 fl_X1_15 rfl rfl ?_
    refine v_icmp_ge C 16 dX1_has_9 (by decide) (fun c2 => ?_) (fun c2 => ?_)
    · refine v_iconst C (0) dX1_has_16 (by decide) ?_
      exact v_zret C E dX1_has_17 rfl ⟨by rw [if_neg (fun z => absurd z.2 (Int32.not_lt.mpr c2))], rfl⟩
    · refine v_iconst C (1) dX1_has_12 (by decide) ?_
      refine v_goto C 17 dX1_has_13 (by decide) ?_
      exact v_zret C E dX1_has_17 rfl ⟨by rw [if_pos ⟨c1, Int32.not_le.mp c2⟩], rfl⟩
set_option maxHeartbeats 4000000 in
set_option maxRecDepth 100000 in
theorem c_asksFor (k : Nat) (hk : k < 4) (x : Int32) : Con yX1_asksFor cX1_asksFor 3 (some .boolean) d [.ref 1, .int (nI k), .int x] (hC (jJ W n w q) L P N F tl) (fun r h' => r = some (.int (if ¬ x < 0 ∧ x ≤ nI (q k) then 1 else 0)) ∧ h' = hC (jJ W n w q) L P N F tl) := by
  refine con_of [(0, .ref 1), (1, .int (nI k)), (2, .int x)] (by decide) (fun _ => Nat.le_of_ble_eq_true rfl) (fun _ => rfl) (fun X C E => ?_)
  refine v_iload_n C dX1_asksFor_0 rfl ?_
  refine v_if_lt C 18 dX1_asksFor_1 (by decide) (fun c1 => ?_) (fun c1 => ?_)
  · refine v_iconst C (0) dX1_asksFor_18 (by decide) ?_
    exact v_zret C E dX1_asksFor_19 rfl ⟨by rw [if_neg (fun z => z.1 c1)], rfl⟩
  · refine v_iload_n C dX1_asksFor_4 rfl ?_
    refine v_aload_n C dX1_asksFor_5 rfl ?_
    refine v_get C dX1_asksFor_6 fl_X1_22 rfl rfl ?_
    refine v_iload_n C dX1_asksFor_9 rfl ?_
    refine v_iald C k dX1_asksFor_10 rfl rfl hk (by decide) ?_
    refine v_icmp_gt C 18 dX1_asksFor_11 (by decide) (fun c2 => ?_) (fun c2 => ?_)
    · refine v_iconst C (0) dX1_asksFor_18 (by decide) ?_
      exact v_zret C E dX1_asksFor_19 rfl ⟨by rw [if_neg (fun z => absurd z.2 (Int32.not_le.mpr c2))], rfl⟩
    · refine v_iconst C (1) dX1_asksFor_14 (by decide) ?_
      refine v_goto C 19 dX1_asksFor_15 (by decide) ?_
      exact v_zret C E dX1_asksFor_19 rfl ⟨by rw [if_pos ⟨c1, Int32.not_lt.mp c2⟩], rfl⟩
set_option maxHeartbeats 4000000 in
set_option maxRecDepth 100000 in
theorem c_clear (V1 : Nat) (hd : 1 ≤ d) : Con yX1_clear cX1_clear 2 none d [.ref 1, .int (nI V1)] (hC (jJ W n w q) L P N F tl) (fun r h' => r = none ∧ ∃ f, (∀ i, i < 4 → f i = (0 : Int32)) ∧ h' = hC (nI V1, 0, iN w, f) L P N F tl) := by
  refine con_of [(0, .ref 1), (1, .int (nI V1))] (by decide) (fun _ => Nat.le_of_ble_eq_true rfl) (fun _ => rfl) (fun X C E => ?_)
  refine v_aload_n C dX1_clear_0 rfl ?_
  refine v_iload_n C dX1_clear_1 rfl ?_
  refine v_put C dX1_clear_2 fp_X1_9 rfl (fun _ => rfl) (fun _ => rfl) (Nat.le_of_ble_eq_true rfl) ?_
  refine v_aload_n C dX1_clear_5 rfl ?_
  refine v_iconst C (0) dX1_clear_6 (by decide) ?_
  refine v_put C dX1_clear_7 fp_X1_15 rfl (fun _ => rfl) (fun _ => rfl) (Nat.le_of_ble_eq_true rfl) ?_
  refine v_aload_n C dX1_clear_10 rfl ?_
  refine v_get C dX1_clear_11 fl_X1_22 rfl rfl ?_
  refine v_iconst C (0) dX1_clear_14 (by decide) ?_
  refine v_callS C dX1_clear_15 lk_X1_25 (c_fillI 0 3 4 (iN q) 0 _ rfl (by decide)) hd rfl rfl (by decide) ?_
  rintro r h' ⟨rfl, f, hf, rfl⟩
  exact v_vret C E dX1_clear_18 ⟨rfl, f, hf, rfl⟩
set_option maxHeartbeats 4000000 in
set_option maxRecDepth 100000 in
theorem c_add (x y : Nat) (hn : n < 4) : Con yX1_add cX1_add 3 (some .int) d [.ref 1, .int (nI x), .int (nI y)] (hC (jJ W n w q) L P N F tl) (fun r h' => r = some (.int (nI n)) ∧ h' = hC (jJ W (n + 1) (va_up w n x) (va_up q n y)) L P N F tl) := by
  refine con_of [(0, .ref 1), (1, .int (nI x)), (2, .int (nI y))] (by decide) (fun _ => Nat.le_of_ble_eq_true rfl) (fun _ => rfl) (fun X C E => ?_)
  refine v_aload_n C dX1_add_0 rfl ?_
  refine v_get C dX1_add_1 fl_X1_18 rfl rfl ?_
  refine v_aload_n C dX1_add_4 rfl ?_
  refine v_get C dX1_add_5 fl_X1_15 rfl rfl ?_
  refine v_iload_n C dX1_add_8 rfl ?_
  refine v_iast C n dX1_add_9 rfl rfl hn (by decide) ?_
  refine v_aload_n C dX1_add_10 rfl ?_
  refine v_get C dX1_add_11 fl_X1_22 rfl rfl ?_
  refine v_aload_n C dX1_add_14 rfl ?_
  refine v_get C dX1_add_15 fl_X1_15 rfl rfl ?_
  refine v_iload_n C dX1_add_18 rfl ?_
  refine v_iast C n dX1_add_19 rfl rfl hn (by decide) ?_
  refine v_aload_n C dX1_add_20 rfl ?_
  refine v_dup C dX1_add_21 rfl ?_
  refine v_get C dX1_add_22 fl_X1_15 rfl rfl ?_
  refine v_iconst C (1) dX1_add_25 (by decide) ?_
  refine v_iadd C dX1_add_26 ?_
  refine v_put C dX1_add_27 fp_X1_15 rfl (fun _ => rfl) (fun _ => rfl) (Nat.le_of_ble_eq_true rfl) ?_
  refine v_aload_n C dX1_add_30 rfl ?_
  refine v_get C dX1_add_31 fl_X1_15 rfl rfl ?_
  refine v_iconst C (1) dX1_add_34 (by decide) ?_
  refine v_isub C dX1_add_35 ?_
  refine v_iret C E dX1_add_36 ⟨?_, ?_⟩
  · show some (Value.int (nI n + 1 - 1)) = _
    rw [nI_1, nI_pred]
  · show hC (nI W, nI n + 1, upd (iN w) n (nI x), upd (iN q) n (nI y)) L P N F tl = _
    rw [upd_iN, upd_iN, nI_1]
    rfl
set_option maxHeartbeats 4000000 in
set_option maxRecDepth 100000 in
theorem c_removeLast (hn : n < 4) : Con yX1_removeLast cX1_removeLast 1 none d [.ref 1] (hC (jJ W (n + 1) w q) L P N F tl) (fun r h' => r = none ∧ h' = hC (jJ W n w (va_up q n 0)) L P N F tl) := by
  refine con_of [(0, .ref 1)] (by decide) (fun _ => Nat.le_of_ble_eq_true rfl) (fun _ => rfl) (fun X C E => ?_)
  refine v_aload_n C dX1_removeLast_0 rfl ?_
  refine v_dup C dX1_removeLast_1 rfl ?_
  refine v_get C dX1_removeLast_2 fl_X1_15 rfl rfl ?_
  refine v_iconst C (1) dX1_removeLast_5 (by decide) ?_
  refine v_isub C dX1_removeLast_6 ?_
  refine v_put C dX1_removeLast_7 fp_X1_15 rfl (fun _ => rfl) (fun _ => rfl) (Nat.le_of_ble_eq_true rfl) ?_
  refine v_aload_n C dX1_removeLast_10 rfl ?_
  refine v_get C dX1_removeLast_11 fl_X1_22 rfl rfl ?_
  refine v_aload_n C dX1_removeLast_14 rfl ?_
  refine v_get C dX1_removeLast_15 fl_X1_15 rfl rfl ?_
  refine v_iconst C (0) dX1_removeLast_18 (by decide) ?_
  refine v_iast C n dX1_removeLast_19 rfl (nI_pred n) hn (by decide) ?_
  refine v_vret C E dX1_removeLast_20 ⟨rfl, ?_⟩
  show hC (nI W, nI (n + 1) - 1, iN w, upd (iN q) n (nI 0)) L P N F tl = _
  rw [upd_iN, nI_pred]
  rfl
end JOB
