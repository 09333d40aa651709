/-! the planner's and the reference's constructors, over the rule for 'new long[4][5]' -/
def Mna : Prop := ∀ {d : Nat} {X : MX} {h : List PC} {lv : List (Nat × Value)} {st : List Value}, Cx RX0 cX0_init 3 none d X → NA (xs X) → (xcl X + 5 ≤ (xR X).cells ∧ xsl X + 24 ≤ (xR X).slots) → h.length = 15 → okH h.length h → okL h.length lv = true → okS h.length st = true → (∀ X', Gr X X' 5 24 h.length → V 3 X' (h ++ [pR 4 rowF, pL 5 (fun _ => 0), pL 5 (fun _ => 0), pL 5 (fun _ => 0), pL 5 (fun _ => 0)]) 21 lv (.ref 15 :: st)) → V 3 X h 17 lv (.int 5 :: .int 4 :: st)
theorem li_X5_43 : LkI RX5 43 yX0_init cX0_init 3 2 := ⟨by decide +kernel, rfl, by decide +kernel, by decide⟩
set_option maxHeartbeats 8000000 in
set_option maxRecDepth 100000 in
theorem k_X0 (mna : Mna) : ConA yX0_init cX0_init 3 1 7 32 [.ref 14, .ref 1, .ref 10] [pO 5 [.ref 1, .ref 4, .ref 6, .ref 10, .null], pO 1 [.int 1, .int 0, .ref 2, .ref 3], pI 4 (fun _ => 0), pI 4 (fun _ => 0), pO 4 [.ref 1, .ref 5], pI 2401 (fun _ => 0), pO 3 [.ref 1, .ref 4, .ref 7, .ref 8, .ref 9, .int 0], pI 96 (fun _ => 0), pI 4 (fun _ => 0), pI 4 (fun _ => 0), pO 2 [.ref 11, .ref 1, .ref 12, .ref 13], pL 4 (fun _ => 0), pL 61 (fun _ => 0), pI 61 (fun _ => 0), pO 0 [.long 0, .long 0, .null, .null, .null, .long 0, .null, .null]] (fun h' => h' = [pO 5 [.ref 1, .ref 4, .ref 6, .ref 10, .null], pO 1 [.int 1, .int 0, .ref 2, .ref 3], pI 4 (fun _ => 0), pI 4 (fun _ => 0), pO 4 [.ref 1, .ref 5], pI 2401 (fun _ => 0), pO 3 [.ref 1, .ref 4, .ref 7, .ref 8, .ref 9, .int 0], pI 96 (fun _ => 0), pI 4 (fun _ => 0), pI 4 (fun _ => 0), pO 2 [.ref 11, .ref 1, .ref 12, .ref 13], pL 4 (fun _ => 0), pL 61 (fun _ => 0), pI 61 (fun _ => 0), pO 0 [.long 0, .long 1, .ref 1, .ref 10, .ref 15, .long 1, .ref 20, .ref 21], pR 4 rowF, pL 5 (fun _ => 0), pL 5 (fun _ => 0), pL 5 (fun _ => 0), pL 5 (fun _ => 0), pI 4 (fun _ => 0), pL 4 (fun _ => 0)]) := by
  refine con_ofA [(0, .ref 14), (1, .ref 1), (2, .ref 10)] (by decide) rfl (fun _ => Nat.le_of_ble_eq_true rfl) (fun _ => rfl) (fun X C E => ?_)
  have S := st_0 C E
  refine v_aload_n C dX0_init_0 rfl ?_
  refine v_obj C dX0_init_1 (by decide +kernel) (by decide) (by decide) ?_
  refine v_aload_n C dX0_init_4 rfl ?_
  refine v_lconst C (0) dX0_init_5 (by decide) ?_
  refine v_put C dX0_init_6 fp_X0_9 rfl (fun _ => rfl) (fun _ => rfl) (Nat.le_of_ble_eq_true rfl) ?_
  refine v_aload_n C dX0_init_9 rfl ?_
  refine v_lconst C (1) dX0_init_10 (by decide) ?_
  refine v_put C dX0_init_11 fp_X0_15 rfl (fun _ => rfl) (fun _ => rfl) (Nat.le_of_ble_eq_true rfl) ?_
  refine v_aload_n C dX0_init_14 rfl ?_
  refine v_iconst C (4) dX0_init_15 (by decide) ?_
  refine v_iconst C (5) dX0_init_16 (by decide) ?_
  refine v_eq (h' := [pO 5 [.ref 1, .ref 4, .ref 6, .ref 10, .null], pO 1 [.int 1, .int 0, .ref 2, .ref 3], pI 4 (fun _ => 0), pI 4 (fun _ => 0), pO 4 [.ref 1, .ref 5], pI 2401 (fun _ => 0), pO 3 [.ref 1, .ref 4, .ref 7, .ref 8, .ref 9, .int 0], pI 96 (fun _ => 0), pI 4 (fun _ => 0), pI 4 (fun _ => 0), pO 2 [.ref 11, .ref 1, .ref 12, .ref 13], pL 4 (fun _ => 0), pL 61 (fun _ => 0), pI 61 (fun _ => 0), pO 0 [.long 0, .long 1, .null, .null, .null, .long 0, .null, .null]]) (lv' := [(0, .ref 14), (1, .ref 1), (2, .ref 10)]) (st' := [.int 5, .int 4, .ref 14]) ?_ rfl rfl rfl rfl
  refine mna C (st_na S) (st_room S (by decide) (by decide)) rfl (And.intro rfl (And.intro rfl (And.intro trivial (And.intro trivial (And.intro rfl (And.intro trivial (And.intro rfl (And.intro trivial (And.intro trivial (And.intro trivial (And.intro rfl (And.intro trivial (And.intro trivial (And.intro trivial (And.intro rfl (trivial)))))))))))))))) rfl rfl (fun X g => ?_)
  have S := st_step S g (Nat.le_of_ble_eq_true rfl)
  have C := st_cx S (by decide) (by decide)
  refine v_putF C (st_m S) dX0_init_21 ff_X0_20 rfl (fun _ => rfl) (fun _ => rfl) (Nat.le_of_ble_eq_true rfl) ?_
  refine v_aload_n C dX0_init_24 rfl ?_
  refine v_lconst C (1) dX0_init_25 (by decide) ?_
  refine v_put C dX0_init_26 fp_X0_23 rfl (fun _ => rfl) (fun _ => rfl) (Nat.le_of_ble_eq_true rfl) ?_
  refine v_aload_n C dX0_init_29 rfl ?_
  refine v_iconst C (4) dX0_init_30 (by decide) ?_
  refine v_eq (h' := [pO 5 [.ref 1, .ref 4, .ref 6, .ref 10, .null], pO 1 [.int 1, .int 0, .ref 2, .ref 3], pI 4 (fun _ => 0), pI 4 (fun _ => 0), pO 4 [.ref 1, .ref 5], pI 2401 (fun _ => 0), pO 3 [.ref 1, .ref 4, .ref 7, .ref 8, .ref 9, .int 0], pI 96 (fun _ => 0), pI 4 (fun _ => 0), pI 4 (fun _ => 0), pO 2 [.ref 11, .ref 1, .ref 12, .ref 13], pL 4 (fun _ => 0), pL 61 (fun _ => 0), pI 61 (fun _ => 0), pO 0 [.long 0, .long 1, .null, .null, .ref 15, .long 1, .null, .null], pR 4 rowF, pL 5 (fun _ => 0), pL 5 (fun _ => 0), pL 5 (fun _ => 0), pL 5 (fun _ => 0)]) (lv' := [(0, .ref 14), (1, .ref 1), (2, .ref 10)]) (st' := [.int 4, .ref 14]) ?_ rfl rfl rfl rfl
  refine v_newI C 4 dX0_init_31 rfl (by decide) arr_I (st_room S (by decide) (by decide)) (by decide) (And.intro rfl (And.intro rfl (And.intro trivial (And.intro trivial (And.intro rfl (And.intro trivial (And.intro rfl (And.intro trivial (And.intro trivial (And.intro trivial (And.intro rfl (And.intro trivial (And.intro trivial (And.intro trivial (And.intro rfl (And.intro (fun i k e => rowF_lt (by decide) e) (And.intro trivial (And.intro trivial (And.intro trivial (And.intro trivial (trivial))))))))))))))))))))) rfl rfl (fun X g => ?_)
  have S := st_step S g (Nat.le_of_ble_eq_true rfl)
  have C := st_cx S (by decide) (by decide)
  refine v_putF C (st_m S) dX0_init_33 ff_X0_26 rfl (fun _ => rfl) (fun _ => rfl) (Nat.le_of_ble_eq_true rfl) ?_
  refine v_aload_n C dX0_init_36 rfl ?_
  refine v_iconst C (4) dX0_init_37 (by decide) ?_
  refine v_eq (h' := [pO 5 [.ref 1, .ref 4, .ref 6, .ref 10, .null], pO 1 [.int 1, .int 0, .ref 2, .ref 3], pI 4 (fun _ => 0), pI 4 (fun _ => 0), pO 4 [.ref 1, .ref 5], pI 2401 (fun _ => 0), pO 3 [.ref 1, .ref 4, .ref 7, .ref 8, .ref 9, .int 0], pI 96 (fun _ => 0), pI 4 (fun _ => 0), pI 4 (fun _ => 0), pO 2 [.ref 11, .ref 1, .ref 12, .ref 13], pL 4 (fun _ => 0), pL 61 (fun _ => 0), pI 61 (fun _ => 0), pO 0 [.long 0, .long 1, .null, .null, .ref 15, .long 1, .ref 20, .null], pR 4 rowF, pL 5 (fun _ => 0), pL 5 (fun _ => 0), pL 5 (fun _ => 0), pL 5 (fun _ => 0), pI 4 (fun _ => 0)]) (lv' := [(0, .ref 14), (1, .ref 1), (2, .ref 10)]) (st' := [.int 4, .ref 14]) ?_ rfl rfl rfl rfl
  refine v_newL C 4 dX0_init_38 rfl (by decide) arr_L (st_room S (by decide) (by decide)) (by decide) (And.intro rfl (And.intro rfl (And.intro trivial (And.intro trivial (And.intro rfl (And.intro trivial (And.intro rfl (And.intro trivial (And.intro trivial (And.intro trivial (And.intro rfl (And.intro trivial (And.intro trivial (And.intro trivial (And.intro rfl (And.intro (fun i k e => rowF_lt (by decide) e) (And.intro trivial (And.intro trivial (And.intro trivial (And.intro trivial (And.intro trivial (trivial)))))))))))))))))))))) rfl rfl (fun X g => ?_)
  have S := st_step S g (Nat.le_of_ble_eq_true rfl)
  have C := st_cx S (by decide) (by decide)
  refine v_putF C (st_m S) dX0_init_40 ff_X0_30 rfl (fun _ => rfl) (fun _ => rfl) (Nat.le_of_ble_eq_true rfl) ?_
  refine v_aload_n C dX0_init_43 rfl ?_
  refine v_aload_n C dX0_init_44 rfl ?_
  refine v_putF C (st_m S) dX0_init_45 ff_X0_34 rfl (fun _ => rfl) (fun _ => rfl) (Nat.le_of_ble_eq_true rfl) ?_
  refine v_aload_n C dX0_init_48 rfl ?_
  refine v_aload_n C dX0_init_49 rfl ?_
  refine v_putF C (st_m S) dX0_init_50 ff_X0_38 rfl (fun _ => rfl) (fun _ => rfl) (Nat.le_of_ble_eq_true rfl) ?_
  exact v_retA C (st_e S) (Gr.to (st_gr S) (by decide) (by decide)) dX0_init_53 rfl
set_option maxHeartbeats 8000000 in
set_option maxRecDepth 100000 in
theorem k_X5 (mna : Mna) : ConA yX5_init cX5_init 1 2 21 2695 [.ref 0] [pO 5 [.null, .null, .null, .null, .null]] (fun h' => h' = [pO 5 [.ref 1, .ref 4, .ref 6, .ref 10, .ref 14], pO 1 [.int 1, .int 0, .ref 2, .ref 3], pI 4 (fun _ => 0), pI 4 (fun _ => 0), pO 4 [.ref 1, .ref 5], pI 2401 (fun _ => 0), pO 3 [.ref 1, .ref 4, .ref 7, .ref 8, .ref 9, .int 0], pI 96 (fun _ => 0), pI 4 (fun _ => 0), pI 4 (fun _ => 0), pO 2 [.ref 11, .ref 1, .ref 12, .ref 13], pL 4 (fun _ => 0), pL 61 (fun _ => 0), pI 61 (fun _ => 0), pO 0 [.long 0, .long 1, .ref 1, .ref 10, .ref 15, .long 1, .ref 20, .ref 21], pR 4 rowF, pL 5 (fun _ => 0), pL 5 (fun _ => 0), pL 5 (fun _ => 0), pL 5 (fun _ => 0), pI 4 (fun _ => 0), pL 4 (fun _ => 0)]) := by
  refine con_ofA [(0, .ref 0)] (by decide) rfl (fun _ => Nat.le_of_ble_eq_true rfl) (fun _ => rfl) (fun X C E => ?_)
  have S := st_0 C E
  refine v_aload_n C dX5_init_0 rfl ?_
  refine v_obj C dX5_init_1 (by decide +kernel) (by decide) (by decide) ?_
  refine v_aload_n C dX5_init_4 rfl ?_
  refine v_eq (h' := [pO 5 [.null, .null, .null, .null, .null]]) (lv' := [(0, .ref 0)]) (st' := [.ref 0]) ?_ rfl rfl rfl rfl
  refine v_new C dX5_init_5 nc_X5_7 (st_room S (by decide) (by decide)) (by decide) (And.intro rfl (trivial)) rfl rfl rfl (fun X g => ?_)
  have S := st_step S g (Nat.le_of_ble_eq_true rfl)
  have C := st_cx S (by decide) (by decide)
  refine v_dup C dX5_init_8 rfl ?_
  refine v_eq (h' := [pO 5 [.null, .null, .null, .null, .null], pO 1 [.int 0, .int 0, .null, .null]]) (lv' := [(0, .ref 0)]) (st' := [.ref 1, .ref 1, .ref 0]) ?_ rfl rfl rfl rfl
  refine v_callIN C (st_na S) dX5_init_9 (by decide +kernel) (by decide +kernel) k_X1 (by decide) (st_room S (by decide) (by decide)) (by decide) rfl rfl (fun X h' g hp => ?_)
  subst hp
  have S := st_step S g (Nat.le_of_ble_eq_true rfl)
  have C := st_cx S (by decide) (by decide)
  refine v_putF C (st_m S) dX5_init_12 ff_X5_10 rfl (fun _ => rfl) (fun _ => rfl) (Nat.le_of_ble_eq_true rfl) ?_
  refine v_aload_n C dX5_init_15 rfl ?_
  refine v_eq (h' := [pO 5 [.ref 1, .null, .null, .null, .null], pO 1 [.int 1, .int 0, .ref 2, .ref 3], pI 4 (fun _ => 0), pI 4 (fun _ => 0)]) (lv' := [(0, .ref 0)]) (st' := [.ref 0]) ?_ rfl rfl rfl rfl
  refine v_new C dX5_init_16 nc_X5_16 (st_room S (by decide) (by decide)) (by decide) (And.intro rfl (And.intro rfl (And.intro trivial (And.intro trivial (trivial))))) rfl rfl rfl (fun X g => ?_)
  have S := st_step S g (Nat.le_of_ble_eq_true rfl)
  have C := st_cx S (by decide) (by decide)
  refine v_dup C dX5_init_19 rfl ?_
  refine v_aload_n C dX5_init_20 rfl ?_
  refine v_get C dX5_init_21 fl_X5_10 rfl rfl ?_
  refine v_eq (h' := [pO 5 [.ref 1, .null, .null, .null, .null], pO 1 [.int 1, .int 0, .ref 2, .ref 3], pI 4 (fun _ => 0), pI 4 (fun _ => 0), pO 4 [.null, .null]]) (lv' := [(0, .ref 0)]) (st' := [.ref 1, .ref 4, .ref 4, .ref 0]) ?_ rfl rfl rfl rfl
  refine v_callI C (st_na S) dX5_init_24 li_X5_18 k_X4 (by decide) (st_room S (by decide) (by decide)) rfl rfl (by decide) rfl rfl (fun X h' g hp => ?_)
  subst hp
  have S := st_step S g (Nat.le_of_ble_eq_true rfl)
  have C := st_cx S (by decide) (by decide)
  refine v_putF C (st_m S) dX5_init_27 ff_X5_21 rfl (fun _ => rfl) (fun _ => rfl) (Nat.le_of_ble_eq_true rfl) ?_
  refine v_aload_n C dX5_init_30 rfl ?_
  refine v_eq (h' := [pO 5 [.ref 1, .ref 4, .null, .null, .null], pO 1 [.int 1, .int 0, .ref 2, .ref 3], pI 4 (fun _ => 0), pI 4 (fun _ => 0), pO 4 [.ref 1, .ref 5], pI 2401 (fun _ => 0)]) (lv' := [(0, .ref 0)]) (st' := [.ref 0]) ?_ rfl rfl rfl rfl
  refine v_new C dX5_init_31 nc_X5_25 (st_room S (by decide) (by decide)) (by decide) (And.intro rfl (And.intro rfl (And.intro trivial (And.intro trivial (And.intro rfl (And.intro trivial (trivial))))))) rfl rfl rfl (fun X g => ?_)
  have S := st_step S g (Nat.le_of_ble_eq_true rfl)
  have C := st_cx S (by decide) (by decide)
  refine v_dup C dX5_init_34 rfl ?_
  refine v_aload_n C dX5_init_35 rfl ?_
  refine v_get C dX5_init_36 fl_X5_10 rfl rfl ?_
  refine v_aload_n C dX5_init_39 rfl ?_
  refine v_get C dX5_init_40 fl_X5_21 rfl rfl ?_
  refine v_eq (h' := [pO 5 [.ref 1, .ref 4, .null, .null, .null], pO 1 [.int 1, .int 0, .ref 2, .ref 3], pI 4 (fun _ => 0), pI 4 (fun _ => 0), pO 4 [.ref 1, .ref 5], pI 2401 (fun _ => 0), pO 3 [.null, .null, .null, .null, .null, .int 0]]) (lv' := [(0, .ref 0)]) (st' := [.ref 4, .ref 1, .ref 6, .ref 6, .ref 0]) ?_ rfl rfl rfl rfl
  refine v_callI C (st_na S) dX5_init_43 li_X5_27 k_X3 (by decide) (st_room S (by decide) (by decide)) rfl rfl (by decide) rfl rfl (fun X h' g hp => ?_)
  subst hp
  have S := st_step S g (Nat.le_of_ble_eq_true rfl)
  have C := st_cx S (by decide) (by decide)
  refine v_putF C (st_m S) dX5_init_46 ff_X5_30 rfl (fun _ => rfl) (fun _ => rfl) (Nat.le_of_ble_eq_true rfl) ?_
  refine v_aload_n C dX5_init_49 rfl ?_
  refine v_eq (h' := [pO 5 [.ref 1, .ref 4, .ref 6, .null, .null], pO 1 [.int 1, .int 0, .ref 2, .ref 3], pI 4 (fun _ => 0), pI 4 (fun _ => 0), pO 4 [.ref 1, .ref 5], pI 2401 (fun _ => 0), pO 3 [.ref 1, .ref 4, .ref 7, .ref 8, .ref 9, .int 0], pI 96 (fun _ => 0), pI 4 (fun _ => 0), pI 4 (fun _ => 0)]) (lv' := [(0, .ref 0)]) (st' := [.ref 0]) ?_ rfl rfl rfl rfl
  refine v_new C dX5_init_50 nc_X5_34 (st_room S (by decide) (by decide)) (by decide) (And.intro rfl (And.intro rfl (And.intro trivial (And.intro trivial (And.intro rfl (And.intro trivial (And.intro rfl (And.intro trivial (And.intro trivial (And.intro trivial (trivial))))))))))) rfl rfl rfl (fun X g => ?_)
  have S := st_step S g (Nat.le_of_ble_eq_true rfl)
  have C := st_cx S (by decide) (by decide)
  refine v_dup C dX5_init_53 rfl ?_
  refine v_aload_n C dX5_init_54 rfl ?_
  refine v_get C dX5_init_55 fl_X5_10 rfl rfl ?_
  refine v_eq (h' := [pO 5 [.ref 1, .ref 4, .ref 6, .null, .null], pO 1 [.int 1, .int 0, .ref 2, .ref 3], pI 4 (fun _ => 0), pI 4 (fun _ => 0), pO 4 [.ref 1, .ref 5], pI 2401 (fun _ => 0), pO 3 [.ref 1, .ref 4, .ref 7, .ref 8, .ref 9, .int 0], pI 96 (fun _ => 0), pI 4 (fun _ => 0), pI 4 (fun _ => 0), pO 2 [.null, .null, .null, .null]]) (lv' := [(0, .ref 0)]) (st' := [.ref 1, .ref 10, .ref 10, .ref 0]) ?_ rfl rfl rfl rfl
  refine v_callI C (st_na S) dX5_init_58 li_X5_36 k_X2 (by decide) (st_room S (by decide) (by decide)) rfl rfl (by decide) rfl rfl (fun X h' g hp => ?_)
  subst hp
  have S := st_step S g (Nat.le_of_ble_eq_true rfl)
  have C := st_cx S (by decide) (by decide)
  refine v_putF C (st_m S) dX5_init_61 ff_X5_37 rfl (fun _ => rfl) (fun _ => rfl) (Nat.le_of_ble_eq_true rfl) ?_
  refine v_aload_n C dX5_init_64 rfl ?_
  refine v_eq (h' := [pO 5 [.ref 1, .ref 4, .ref 6, .ref 10, .null], pO 1 [.int 1, .int 0, .ref 2, .ref 3], pI 4 (fun _ => 0), pI 4 (fun _ => 0), pO 4 [.ref 1, .ref 5], pI 2401 (fun _ => 0), pO 3 [.ref 1, .ref 4, .ref 7, .ref 8, .ref 9, .int 0], pI 96 (fun _ => 0), pI 4 (fun _ => 0), pI 4 (fun _ => 0), pO 2 [.ref 11, .ref 1, .ref 12, .ref 13], pL 4 (fun _ => 0), pL 61 (fun _ => 0), pI 61 (fun _ => 0)]) (lv' := [(0, .ref 0)]) (st' := [.ref 0]) ?_ rfl rfl rfl rfl
  refine v_new C dX5_init_65 nc_X5_41 (st_room S (by decide) (by decide)) (by decide) (And.intro rfl (And.intro rfl (And.intro trivial (And.intro trivial (And.intro rfl (And.intro trivial (And.intro rfl (And.intro trivial (And.intro trivial (And.intro trivial (And.intro rfl (And.intro trivial (And.intro trivial (And.intro trivial (trivial))))))))))))))) rfl rfl rfl (fun X g => ?_)
  have S := st_step S g (Nat.le_of_ble_eq_true rfl)
  have C := st_cx S (by decide) (by decide)
  refine v_dup C dX5_init_68 rfl ?_
  refine v_aload_n C dX5_init_69 rfl ?_
  refine v_get C dX5_init_70 fl_X5_10 rfl rfl ?_
  refine v_aload_n C dX5_init_73 rfl ?_
  refine v_get C dX5_init_74 fl_X5_37 rfl rfl ?_
  refine v_eq (h' := [pO 5 [.ref 1, .ref 4, .ref 6, .ref 10, .null], pO 1 [.int 1, .int 0, .ref 2, .ref 3], pI 4 (fun _ => 0), pI 4 (fun _ => 0), pO 4 [.ref 1, .ref 5], pI 2401 (fun _ => 0), pO 3 [.ref 1, .ref 4, .ref 7, .ref 8, .ref 9, .int 0], pI 96 (fun _ => 0), pI 4 (fun _ => 0), pI 4 (fun _ => 0), pO 2 [.ref 11, .ref 1, .ref 12, .ref 13], pL 4 (fun _ => 0), pL 61 (fun _ => 0), pI 61 (fun _ => 0), pO 0 [.long 0, .long 0, .null, .null, .null, .long 0, .null, .null]]) (lv' := [(0, .ref 0)]) (st' := [.ref 10, .ref 1, .ref 14, .ref 14, .ref 0]) ?_ rfl rfl rfl rfl
  refine v_callI C (st_na S) dX5_init_77 li_X5_43 (k_X0 mna) (by decide) (st_room S (by decide) (by decide)) rfl rfl (by decide) rfl rfl (fun X h' g hp => ?_)
  subst hp
  have S := st_step S g (Nat.le_of_ble_eq_true rfl)
  have C := st_cx S (by decide) (by decide)
  refine v_putF C (st_m S) dX5_init_80 ff_X5_46 rfl (fun _ => rfl) (fun _ => rfl) (Nat.le_of_ble_eq_true rfl) ?_
  exact v_retA C (st_e S) (Gr.to (st_gr S) (by decide) (by decide)) dX5_init_83 rfl
set_option maxHeartbeats 8000000 in
set_option maxRecDepth 100000 in
theorem k_X6 : ConA yX6_init cX6_init 1 1 10 3537 [.ref 22] [pO 5 [.ref 1, .ref 4, .ref 6, .ref 10, .ref 14], pO 1 [.int 1, .int 0, .ref 2, .ref 3], pI 4 (fun _ => 0), pI 4 (fun _ => 0), pO 4 [.ref 1, .ref 5], pI 2401 (fun _ => 0), pO 3 [.ref 1, .ref 4, .ref 7, .ref 8, .ref 9, .int 0], pI 96 (fun _ => 0), pI 4 (fun _ => 0), pI 4 (fun _ => 0), pO 2 [.ref 11, .ref 1, .ref 12, .ref 13], pL 4 (fun _ => 0), pL 61 (fun _ => 0), pI 61 (fun _ => 0), pO 0 [.long 0, .long 1, .ref 1, .ref 10, .ref 15, .long 1, .ref 20, .ref 21], pR 4 rowF, pL 5 (fun _ => 0), pL 5 (fun _ => 0), pL 5 (fun _ => 0), pL 5 (fun _ => 0), pI 4 (fun _ => 0), pL 4 (fun _ => 0), pO 6 [.int 0, .int 0, .null, .null, .null, .null, .int 0, .int 0, .int 0, .long 0, .long 0, .null, .null, .int 0, .null, .null, .long 0, .null, .long 0, .long 0, .null]] (fun h' => h' = [pO 5 [.ref 1, .ref 4, .ref 6, .ref 10, .ref 14], pO 1 [.int 1, .int 0, .ref 2, .ref 3], pI 4 (fun _ => 0), pI 4 (fun _ => 0), pO 4 [.ref 1, .ref 5], pI 2401 (fun _ => 0), pO 3 [.ref 1, .ref 4, .ref 7, .ref 8, .ref 9, .int 0], pI 96 (fun _ => 0), pI 4 (fun _ => 0), pI 4 (fun _ => 0), pO 2 [.ref 11, .ref 1, .ref 12, .ref 13], pL 4 (fun _ => 0), pL 61 (fun _ => 0), pI 61 (fun _ => 0), pO 0 [.long 0, .long 1, .ref 1, .ref 10, .ref 15, .long 1, .ref 20, .ref 21], pR 4 rowF, pL 5 (fun _ => 0), pL 5 (fun _ => 0), pL 5 (fun _ => 0), pL 5 (fun _ => 0), pI 4 (fun _ => 0), pL 4 (fun _ => 0), pO 6 [.int 1, .int 0, .ref 23, .ref 24, .ref 25, .ref 26, .int 0, .int 0, .int 0, .long 0, .long 0, .ref 27, .ref 28, .int 0, .ref 29, .ref 30, .long 0, .ref 31, .long 0, .long 0, .ref 32], pI 4 (fun _ => 0), pI 4 (fun _ => 0), pI 2401 (fun _ => 0), pI 96 (fun _ => 0), pI 4 (fun _ => 0), pI 1000 (fun _ => 0), pI 4 (fun _ => 0), pL 4 (fun _ => 0), pL 4 (fun _ => 0), pL 16 (fun _ => 0)]) := by
  refine con_ofA [(0, .ref 22)] (by decide) rfl (fun _ => Nat.le_of_ble_eq_true rfl) (fun _ => rfl) (fun X C E => ?_)
  have S := st_0 C E
  refine v_aload_n C dX6_init_0 rfl ?_
  refine v_obj C dX6_init_1 (by decide +kernel) (by decide) (by decide) ?_
  refine v_aload_n C dX6_init_4 rfl ?_
  refine v_iconst C (1) dX6_init_5 (by decide) ?_
  refine v_put C dX6_init_6 fp_X6_7 rfl (fun _ => rfl) (fun _ => rfl) (Nat.le_of_ble_eq_true rfl) ?_
  refine v_aload_n C dX6_init_9 rfl ?_
  refine v_iconst C (4) dX6_init_10 (by decide) ?_
  refine v_eq (h' := [pO 5 [.ref 1, .ref 4, .ref 6, .ref 10, .ref 14], pO 1 [.int 1, .int 0, .ref 2, .ref 3], pI 4 (fun _ => 0), pI 4 (fun _ => 0), pO 4 [.ref 1, .ref 5], pI 2401 (fun _ => 0), pO 3 [.ref 1, .ref 4, .ref 7, .ref 8, .ref 9, .int 0], pI 96 (fun _ => 0), pI 4 (fun _ => 0), pI 4 (fun _ => 0), pO 2 [.ref 11, .ref 1, .ref 12, .ref 13], pL 4 (fun _ => 0), pL 61 (fun _ => 0), pI 61 (fun _ => 0), pO 0 [.long 0, .long 1, .ref 1, .ref 10, .ref 15, .long 1, .ref 20, .ref 21], pR 4 rowF, pL 5 (fun _ => 0), pL 5 (fun _ => 0), pL 5 (fun _ => 0), pL 5 (fun _ => 0), pI 4 (fun _ => 0), pL 4 (fun _ => 0), pO 6 [.int 1, .int 0, .null, .null, .null, .null, .int 0, .int 0, .int 0, .long 0, .long 0, .null, .null, .int 0, .null, .null, .long 0, .null, .long 0, .long 0, .null]]) (lv' := [(0, .ref 22)]) (st' := [.int 4, .ref 22]) ?_ rfl rfl rfl rfl
  refine v_newI C 4 dX6_init_11 rfl (by decide) arr_I (st_room S (by decide) (by decide)) (by decide) (And.intro rfl (And.intro rfl (And.intro trivial (And.intro trivial (And.intro rfl (And.intro trivial (And.intro rfl (And.intro trivial (And.intro trivial (And.intro trivial (And.intro rfl (And.intro trivial (And.intro trivial (And.intro trivial (And.intro rfl (And.intro (fun i k e => rowF_lt (by decide) e) (And.intro trivial (And.intro trivial (And.intro trivial (And.intro trivial (And.intro trivial (And.intro trivial (And.intro rfl (trivial)))))))))))))))))))))))) rfl rfl (fun X g => ?_)
  have S := st_step S g (Nat.le_of_ble_eq_true rfl)
  have C := st_cx S (by decide) (by decide)
  refine v_putF C (st_m S) dX6_init_13 ff_X6_13 rfl (fun _ => rfl) (fun _ => rfl) (Nat.le_of_ble_eq_true rfl) ?_
  refine v_aload_n C dX6_init_16 rfl ?_
  refine v_iconst C (4) dX6_init_17 (by decide) ?_
  refine v_eq (h' := [pO 5 [.ref 1, .ref 4, .ref 6, .ref 10, .ref 14], pO 1 [.int 1, .int 0, .ref 2, .ref 3], pI 4 (fun _ => 0), pI 4 (fun _ => 0), pO 4 [.ref 1, .ref 5], pI 2401 (fun _ => 0), pO 3 [.ref 1, .ref 4, .ref 7, .ref 8, .ref 9, .int 0], pI 96 (fun _ => 0), pI 4 (fun _ => 0), pI 4 (fun _ => 0), pO 2 [.ref 11, .ref 1, .ref 12, .ref 13], pL 4 (fun _ => 0), pL 61 (fun _ => 0), pI 61 (fun _ => 0), pO 0 [.long 0, .long 1, .ref 1, .ref 10, .ref 15, .long 1, .ref 20, .ref 21], pR 4 rowF, pL 5 (fun _ => 0), pL 5 (fun _ => 0), pL 5 (fun _ => 0), pL 5 (fun _ => 0), pI 4 (fun _ => 0), pL 4 (fun _ => 0), pO 6 [.int 1, .int 0, .ref 23, .null, .null, .null, .int 0, .int 0, .int 0, .long 0, .long 0, .null, .null, .int 0, .null, .null, .long 0, .null, .long 0, .long 0, .null], pI 4 (fun _ => 0)]) (lv' := [(0, .ref 22)]) (st' := [.int 4, .ref 22]) ?_ rfl rfl rfl rfl
  refine v_newI C 4 dX6_init_18 rfl (by decide) arr_I (st_room S (by decide) (by decide)) (by decide) (And.intro rfl (And.intro rfl (And.intro trivial (And.intro trivial (And.intro rfl (And.intro trivial (And.intro rfl (And.intro trivial (And.intro trivial (And.intro trivial (And.intro rfl (And.intro trivial (And.intro trivial (And.intro trivial (And.intro rfl (And.intro (fun i k e => rowF_lt (by decide) e) (And.intro trivial (And.intro trivial (And.intro trivial (And.intro trivial (And.intro trivial (And.intro trivial (And.intro rfl (And.intro trivial (trivial))))))))))))))))))))))))) rfl rfl (fun X g => ?_)
  have S := st_step S g (Nat.le_of_ble_eq_true rfl)
  have C := st_cx S (by decide) (by decide)
  refine v_putF C (st_m S) dX6_init_20 ff_X6_17 rfl (fun _ => rfl) (fun _ => rfl) (Nat.le_of_ble_eq_true rfl) ?_
  refine v_aload_n C dX6_init_23 rfl ?_
  refine v_sipush C (2401) dX6_init_24 (by decide) ?_
  refine v_eq (h' := [pO 5 [.ref 1, .ref 4, .ref 6, .ref 10, .ref 14], pO 1 [.int 1, .int 0, .ref 2, .ref 3], pI 4 (fun _ => 0), pI 4 (fun _ => 0), pO 4 [.ref 1, .ref 5], pI 2401 (fun _ => 0), pO 3 [.ref 1, .ref 4, .ref 7, .ref 8, .ref 9, .int 0], pI 96 (fun _ => 0), pI 4 (fun _ => 0), pI 4 (fun _ => 0), pO 2 [.ref 11, .ref 1, .ref 12, .ref 13], pL 4 (fun _ => 0), pL 61 (fun _ => 0), pI 61 (fun _ => 0), pO 0 [.long 0, .long 1, .ref 1, .ref 10, .ref 15, .long 1, .ref 20, .ref 21], pR 4 rowF, pL 5 (fun _ => 0), pL 5 (fun _ => 0), pL 5 (fun _ => 0), pL 5 (fun _ => 0), pI 4 (fun _ => 0), pL 4 (fun _ => 0), pO 6 [.int 1, .int 0, .ref 23, .ref 24, .null, .null, .int 0, .int 0, .int 0, .long 0, .long 0, .null, .null, .int 0, .null, .null, .long 0, .null, .long 0, .long 0, .null], pI 4 (fun _ => 0), pI 4 (fun _ => 0)]) (lv' := [(0, .ref 22)]) (st' := [.int 2401, .ref 22]) ?_ rfl rfl rfl rfl
  refine v_newI C 2401 dX6_init_27 rfl (by decide) arr_I (st_room S (by decide) (by decide)) (by decide) (And.intro rfl (And.intro rfl (And.intro trivial (And.intro trivial (And.intro rfl (And.intro trivial (And.intro rfl (And.intro trivial (And.intro trivial (And.intro trivial (And.intro rfl (And.intro trivial (And.intro trivial (And.intro trivial (And.intro rfl (And.intro (fun i k e => rowF_lt (by decide) e) (And.intro trivial (And.intro trivial (And.intro trivial (And.intro trivial (And.intro trivial (And.intro trivial (And.intro rfl (And.intro trivial (And.intro trivial (trivial)))))))))))))))))))))))))) rfl rfl (fun X g => ?_)
  have S := st_step S g (Nat.le_of_ble_eq_true rfl)
  have C := st_cx S (by decide) (by decide)
  refine v_putF C (st_m S) dX6_init_29 ff_X6_20 rfl (fun _ => rfl) (fun _ => rfl) (Nat.le_of_ble_eq_true rfl) ?_
  refine v_aload_n C dX6_init_32 rfl ?_
  refine v_bipush C (96) dX6_init_33 (by decide) ?_
  refine v_eq (h' := [pO 5 [.ref 1, .ref 4, .ref 6, .ref 10, .ref 14], pO 1 [.int 1, .int 0, .ref 2, .ref 3], pI 4 (fun _ => 0), pI 4 (fun _ => 0), pO 4 [.ref 1, .ref 5], pI 2401 (fun _ => 0), pO 3 [.ref 1, .ref 4, .ref 7, .ref 8, .ref 9, .int 0], pI 96 (fun _ => 0), pI 4 (fun _ => 0), pI 4 (fun _ => 0), pO 2 [.ref 11, .ref 1, .ref 12, .ref 13], pL 4 (fun _ => 0), pL 61 (fun _ => 0), pI 61 (fun _ => 0), pO 0 [.long 0, .long 1, .ref 1, .ref 10, .ref 15, .long 1, .ref 20, .ref 21], pR 4 rowF, pL 5 (fun _ => 0), pL 5 (fun _ => 0), pL 5 (fun _ => 0), pL 5 (fun _ => 0), pI 4 (fun _ => 0), pL 4 (fun _ => 0), pO 6 [.int 1, .int 0, .ref 23, .ref 24, .ref 25, .null, .int 0, .int 0, .int 0, .long 0, .long 0, .null, .null, .int 0, .null, .null, .long 0, .null, .long 0, .long 0, .null], pI 4 (fun _ => 0), pI 4 (fun _ => 0), pI 2401 (fun _ => 0)]) (lv' := [(0, .ref 22)]) (st' := [.int 96, .ref 22]) ?_ rfl rfl rfl rfl
  refine v_newI C 96 dX6_init_35 rfl (by decide) arr_I (st_room S (by decide) (by decide)) (by decide) (And.intro rfl (And.intro rfl (And.intro trivial (And.intro trivial (And.intro rfl (And.intro trivial (And.intro rfl (And.intro trivial (And.intro trivial (And.intro trivial (And.intro rfl (And.intro trivial (And.intro trivial (And.intro trivial (And.intro rfl (And.intro (fun i k e => rowF_lt (by decide) e) (And.intro trivial (And.intro trivial (And.intro trivial (And.intro trivial (And.intro trivial (And.intro trivial (And.intro rfl (And.intro trivial (And.intro trivial (And.intro trivial (trivial))))))))))))))))))))))))))) rfl rfl (fun X g => ?_)
  have S := st_step S g (Nat.le_of_ble_eq_true rfl)
  have C := st_cx S (by decide) (by decide)
  refine v_putF C (st_m S) dX6_init_37 ff_X6_23 rfl (fun _ => rfl) (fun _ => rfl) (Nat.le_of_ble_eq_true rfl) ?_
  refine v_aload_n C dX6_init_40 rfl ?_
  refine v_iconst C (4) dX6_init_41 (by decide) ?_
  refine v_eq (h' := [pO 5 [.ref 1, .ref 4, .ref 6, .ref 10, .ref 14], pO 1 [.int 1, .int 0, .ref 2, .ref 3], pI 4 (fun _ => 0), pI 4 (fun _ => 0), pO 4 [.ref 1, .ref 5], pI 2401 (fun _ => 0), pO 3 [.ref 1, .ref 4, .ref 7, .ref 8, .ref 9, .int 0], pI 96 (fun _ => 0), pI 4 (fun _ => 0), pI 4 (fun _ => 0), pO 2 [.ref 11, .ref 1, .ref 12, .ref 13], pL 4 (fun _ => 0), pL 61 (fun _ => 0), pI 61 (fun _ => 0), pO 0 [.long 0, .long 1, .ref 1, .ref 10, .ref 15, .long 1, .ref 20, .ref 21], pR 4 rowF, pL 5 (fun _ => 0), pL 5 (fun _ => 0), pL 5 (fun _ => 0), pL 5 (fun _ => 0), pI 4 (fun _ => 0), pL 4 (fun _ => 0), pO 6 [.int 1, .int 0, .ref 23, .ref 24, .ref 25, .ref 26, .int 0, .int 0, .int 0, .long 0, .long 0, .null, .null, .int 0, .null, .null, .long 0, .null, .long 0, .long 0, .null], pI 4 (fun _ => 0), pI 4 (fun _ => 0), pI 2401 (fun _ => 0), pI 96 (fun _ => 0)]) (lv' := [(0, .ref 22)]) (st' := [.int 4, .ref 22]) ?_ rfl rfl rfl rfl
  refine v_newI C 4 dX6_init_42 rfl (by decide) arr_I (st_room S (by decide) (by decide)) (by decide) (And.intro rfl (And.intro rfl (And.intro trivial (And.intro trivial (And.intro rfl (And.intro trivial (And.intro rfl (And.intro trivial (And.intro trivial (And.intro trivial (And.intro rfl (And.intro trivial (And.intro trivial (And.intro trivial (And.intro rfl (And.intro (fun i k e => rowF_lt (by decide) e) (And.intro trivial (And.intro trivial (And.intro trivial (And.intro trivial (And.intro trivial (And.intro trivial (And.intro rfl (And.intro trivial (And.intro trivial (And.intro trivial (And.intro trivial (trivial)))))))))))))))))))))))))))) rfl rfl (fun X g => ?_)
  have S := st_step S g (Nat.le_of_ble_eq_true rfl)
  have C := st_cx S (by decide) (by decide)
  refine v_putF C (st_m S) dX6_init_44 ff_X6_26 rfl (fun _ => rfl) (fun _ => rfl) (Nat.le_of_ble_eq_true rfl) ?_
  refine v_aload_n C dX6_init_47 rfl ?_
  refine v_sipush C (1000) dX6_init_48 (by decide) ?_
  refine v_eq (h' := [pO 5 [.ref 1, .ref 4, .ref 6, .ref 10, .ref 14], pO 1 [.int 1, .int 0, .ref 2, .ref 3], pI 4 (fun _ => 0), pI 4 (fun _ => 0), pO 4 [.ref 1, .ref 5], pI 2401 (fun _ => 0), pO 3 [.ref 1, .ref 4, .ref 7, .ref 8, .ref 9, .int 0], pI 96 (fun _ => 0), pI 4 (fun _ => 0), pI 4 (fun _ => 0), pO 2 [.ref 11, .ref 1, .ref 12, .ref 13], pL 4 (fun _ => 0), pL 61 (fun _ => 0), pI 61 (fun _ => 0), pO 0 [.long 0, .long 1, .ref 1, .ref 10, .ref 15, .long 1, .ref 20, .ref 21], pR 4 rowF, pL 5 (fun _ => 0), pL 5 (fun _ => 0), pL 5 (fun _ => 0), pL 5 (fun _ => 0), pI 4 (fun _ => 0), pL 4 (fun _ => 0), pO 6 [.int 1, .int 0, .ref 23, .ref 24, .ref 25, .ref 26, .int 0, .int 0, .int 0, .long 0, .long 0, .ref 27, .null, .int 0, .null, .null, .long 0, .null, .long 0, .long 0, .null], pI 4 (fun _ => 0), pI 4 (fun _ => 0), pI 2401 (fun _ => 0), pI 96 (fun _ => 0), pI 4 (fun _ => 0)]) (lv' := [(0, .ref 22)]) (st' := [.int 1000, .ref 22]) ?_ rfl rfl rfl rfl
  refine v_newI C 1000 dX6_init_51 rfl (by decide) arr_I (st_room S (by decide) (by decide)) (by decide) (And.intro rfl (And.intro rfl (And.intro trivial (And.intro trivial (And.intro rfl (And.intro trivial (And.intro rfl (And.intro trivial (And.intro trivial (And.intro trivial (And.intro rfl (And.intro trivial (And.intro trivial (And.intro trivial (And.intro rfl (And.intro (fun i k e => rowF_lt (by decide) e) (And.intro trivial (And.intro trivial (And.intro trivial (And.intro trivial (And.intro trivial (And.intro trivial (And.intro rfl (And.intro trivial (And.intro trivial (And.intro trivial (And.intro trivial (And.intro trivial (trivial))))))))))))))))))))))))))))) rfl rfl (fun X g => ?_)
  have S := st_step S g (Nat.le_of_ble_eq_true rfl)
  have C := st_cx S (by decide) (by decide)
  refine v_putF C (st_m S) dX6_init_53 ff_X6_29 rfl (fun _ => rfl) (fun _ => rfl) (Nat.le_of_ble_eq_true rfl) ?_
  refine v_aload_n C dX6_init_56 rfl ?_
  refine v_iconst C (4) dX6_init_57 (by decide) ?_
  refine v_eq (h' := [pO 5 [.ref 1, .ref 4, .ref 6, .ref 10, .ref 14], pO 1 [.int 1, .int 0, .ref 2, .ref 3], pI 4 (fun _ => 0), pI 4 (fun _ => 0), pO 4 [.ref 1, .ref 5], pI 2401 (fun _ => 0), pO 3 [.ref 1, .ref 4, .ref 7, .ref 8, .ref 9, .int 0], pI 96 (fun _ => 0), pI 4 (fun _ => 0), pI 4 (fun _ => 0), pO 2 [.ref 11, .ref 1, .ref 12, .ref 13], pL 4 (fun _ => 0), pL 61 (fun _ => 0), pI 61 (fun _ => 0), pO 0 [.long 0, .long 1, .ref 1, .ref 10, .ref 15, .long 1, .ref 20, .ref 21], pR 4 rowF, pL 5 (fun _ => 0), pL 5 (fun _ => 0), pL 5 (fun _ => 0), pL 5 (fun _ => 0), pI 4 (fun _ => 0), pL 4 (fun _ => 0), pO 6 [.int 1, .int 0, .ref 23, .ref 24, .ref 25, .ref 26, .int 0, .int 0, .int 0, .long 0, .long 0, .ref 27, .ref 28, .int 0, .null, .null, .long 0, .null, .long 0, .long 0, .null], pI 4 (fun _ => 0), pI 4 (fun _ => 0), pI 2401 (fun _ => 0), pI 96 (fun _ => 0), pI 4 (fun _ => 0), pI 1000 (fun _ => 0)]) (lv' := [(0, .ref 22)]) (st' := [.int 4, .ref 22]) ?_ rfl rfl rfl rfl
  refine v_newI C 4 dX6_init_58 rfl (by decide) arr_I (st_room S (by decide) (by decide)) (by decide) (And.intro rfl (And.intro rfl (And.intro trivial (And.intro trivial (And.intro rfl (And.intro trivial (And.intro rfl (And.intro trivial (And.intro trivial (And.intro trivial (And.intro rfl (And.intro trivial (And.intro trivial (And.intro trivial (And.intro rfl (And.intro (fun i k e => rowF_lt (by decide) e) (And.intro trivial (And.intro trivial (And.intro trivial (And.intro trivial (And.intro trivial (And.intro trivial (And.intro rfl (And.intro trivial (And.intro trivial (And.intro trivial (And.intro trivial (And.intro trivial (And.intro trivial (trivial)))))))))))))))))))))))))))))) rfl rfl (fun X g => ?_)
  have S := st_step S g (Nat.le_of_ble_eq_true rfl)
  have C := st_cx S (by decide) (by decide)
  refine v_putF C (st_m S) dX6_init_60 ff_X6_32 rfl (fun _ => rfl) (fun _ => rfl) (Nat.le_of_ble_eq_true rfl) ?_
  refine v_aload_n C dX6_init_63 rfl ?_
  refine v_iconst C (4) dX6_init_64 (by decide) ?_
  refine v_eq (h' := [pO 5 [.ref 1, .ref 4, .ref 6, .ref 10, .ref 14], pO 1 [.int 1, .int 0, .ref 2, .ref 3], pI 4 (fun _ => 0), pI 4 (fun _ => 0), pO 4 [.ref 1, .ref 5], pI 2401 (fun _ => 0), pO 3 [.ref 1, .ref 4, .ref 7, .ref 8, .ref 9, .int 0], pI 96 (fun _ => 0), pI 4 (fun _ => 0), pI 4 (fun _ => 0), pO 2 [.ref 11, .ref 1, .ref 12, .ref 13], pL 4 (fun _ => 0), pL 61 (fun _ => 0), pI 61 (fun _ => 0), pO 0 [.long 0, .long 1, .ref 1, .ref 10, .ref 15, .long 1, .ref 20, .ref 21], pR 4 rowF, pL 5 (fun _ => 0), pL 5 (fun _ => 0), pL 5 (fun _ => 0), pL 5 (fun _ => 0), pI 4 (fun _ => 0), pL 4 (fun _ => 0), pO 6 [.int 1, .int 0, .ref 23, .ref 24, .ref 25, .ref 26, .int 0, .int 0, .int 0, .long 0, .long 0, .ref 27, .ref 28, .int 0, .ref 29, .null, .long 0, .null, .long 0, .long 0, .null], pI 4 (fun _ => 0), pI 4 (fun _ => 0), pI 2401 (fun _ => 0), pI 96 (fun _ => 0), pI 4 (fun _ => 0), pI 1000 (fun _ => 0), pI 4 (fun _ => 0)]) (lv' := [(0, .ref 22)]) (st' := [.int 4, .ref 22]) ?_ rfl rfl rfl rfl
  refine v_newL C 4 dX6_init_65 rfl (by decide) arr_L (st_room S (by decide) (by decide)) (by decide) (And.intro rfl (And.intro rfl (And.intro trivial (And.intro trivial (And.intro rfl (And.intro trivial (And.intro rfl (And.intro trivial (And.intro trivial (And.intro trivial (And.intro rfl (And.intro trivial (And.intro trivial (And.intro trivial (And.intro rfl (And.intro (fun i k e => rowF_lt (by decide) e) (And.intro trivial (And.intro trivial (And.intro trivial (And.intro trivial (And.intro trivial (And.intro trivial (And.intro rfl (And.intro trivial (And.intro trivial (And.intro trivial (And.intro trivial (And.intro trivial (And.intro trivial (And.intro trivial (trivial))))))))))))))))))))))))))))))) rfl rfl (fun X g => ?_)
  have S := st_step S g (Nat.le_of_ble_eq_true rfl)
  have C := st_cx S (by decide) (by decide)
  refine v_putF C (st_m S) dX6_init_67 ff_X6_35 rfl (fun _ => rfl) (fun _ => rfl) (Nat.le_of_ble_eq_true rfl) ?_
  refine v_aload_n C dX6_init_70 rfl ?_
  refine v_iconst C (4) dX6_init_71 (by decide) ?_
  refine v_eq (h' := [pO 5 [.ref 1, .ref 4, .ref 6, .ref 10, .ref 14], pO 1 [.int 1, .int 0, .ref 2, .ref 3], pI 4 (fun _ => 0), pI 4 (fun _ => 0), pO 4 [.ref 1, .ref 5], pI 2401 (fun _ => 0), pO 3 [.ref 1, .ref 4, .ref 7, .ref 8, .ref 9, .int 0], pI 96 (fun _ => 0), pI 4 (fun _ => 0), pI 4 (fun _ => 0), pO 2 [.ref 11, .ref 1, .ref 12, .ref 13], pL 4 (fun _ => 0), pL 61 (fun _ => 0), pI 61 (fun _ => 0), pO 0 [.long 0, .long 1, .ref 1, .ref 10, .ref 15, .long 1, .ref 20, .ref 21], pR 4 rowF, pL 5 (fun _ => 0), pL 5 (fun _ => 0), pL 5 (fun _ => 0), pL 5 (fun _ => 0), pI 4 (fun _ => 0), pL 4 (fun _ => 0), pO 6 [.int 1, .int 0, .ref 23, .ref 24, .ref 25, .ref 26, .int 0, .int 0, .int 0, .long 0, .long 0, .ref 27, .ref 28, .int 0, .ref 29, .ref 30, .long 0, .null, .long 0, .long 0, .null], pI 4 (fun _ => 0), pI 4 (fun _ => 0), pI 2401 (fun _ => 0), pI 96 (fun _ => 0), pI 4 (fun _ => 0), pI 1000 (fun _ => 0), pI 4 (fun _ => 0), pL 4 (fun _ => 0)]) (lv' := [(0, .ref 22)]) (st' := [.int 4, .ref 22]) ?_ rfl rfl rfl rfl
  refine v_newL C 4 dX6_init_72 rfl (by decide) arr_L (st_room S (by decide) (by decide)) (by decide) (And.intro rfl (And.intro rfl (And.intro trivial (And.intro trivial (And.intro rfl (And.intro trivial (And.intro rfl (And.intro trivial (And.intro trivial (And.intro trivial (And.intro rfl (And.intro trivial (And.intro trivial (And.intro trivial (And.intro rfl (And.intro (fun i k e => rowF_lt (by decide) e) (And.intro trivial (And.intro trivial (And.intro trivial (And.intro trivial (And.intro trivial (And.intro trivial (And.intro rfl (And.intro trivial (And.intro trivial (And.intro trivial (And.intro trivial (And.intro trivial (And.intro trivial (And.intro trivial (And.intro trivial (trivial)))))))))))))))))))))))))))))))) rfl rfl (fun X g => ?_)
  have S := st_step S g (Nat.le_of_ble_eq_true rfl)
  have C := st_cx S (by decide) (by decide)
  refine v_putF C (st_m S) dX6_init_74 ff_X6_39 rfl (fun _ => rfl) (fun _ => rfl) (Nat.le_of_ble_eq_true rfl) ?_
  refine v_aload_n C dX6_init_77 rfl ?_
  refine v_bipush C (16) dX6_init_78 (by decide) ?_
  refine v_eq (h' := [pO 5 [.ref 1, .ref 4, .ref 6, .ref 10, .ref 14], pO 1 [.int 1, .int 0, .ref 2, .ref 3], pI 4 (fun _ => 0), pI 4 (fun _ => 0), pO 4 [.ref 1, .ref 5], pI 2401 (fun _ => 0), pO 3 [.ref 1, .ref 4, .ref 7, .ref 8, .ref 9, .int 0], pI 96 (fun _ => 0), pI 4 (fun _ => 0), pI 4 (fun _ => 0), pO 2 [.ref 11, .ref 1, .ref 12, .ref 13], pL 4 (fun _ => 0), pL 61 (fun _ => 0), pI 61 (fun _ => 0), pO 0 [.long 0, .long 1, .ref 1, .ref 10, .ref 15, .long 1, .ref 20, .ref 21], pR 4 rowF, pL 5 (fun _ => 0), pL 5 (fun _ => 0), pL 5 (fun _ => 0), pL 5 (fun _ => 0), pI 4 (fun _ => 0), pL 4 (fun _ => 0), pO 6 [.int 1, .int 0, .ref 23, .ref 24, .ref 25, .ref 26, .int 0, .int 0, .int 0, .long 0, .long 0, .ref 27, .ref 28, .int 0, .ref 29, .ref 30, .long 0, .ref 31, .long 0, .long 0, .null], pI 4 (fun _ => 0), pI 4 (fun _ => 0), pI 2401 (fun _ => 0), pI 96 (fun _ => 0), pI 4 (fun _ => 0), pI 1000 (fun _ => 0), pI 4 (fun _ => 0), pL 4 (fun _ => 0), pL 4 (fun _ => 0)]) (lv' := [(0, .ref 22)]) (st' := [.int 16, .ref 22]) ?_ rfl rfl rfl rfl
  refine v_newL C 16 dX6_init_80 rfl (by decide) arr_L (st_room S (by decide) (by decide)) (by decide) (And.intro rfl (And.intro rfl (And.intro trivial (And.intro trivial (And.intro rfl (And.intro trivial (And.intro rfl (And.intro trivial (And.intro trivial (And.intro trivial (And.intro rfl (And.intro trivial (And.intro trivial (And.intro trivial (And.intro rfl (And.intro (fun i k e => rowF_lt (by decide) e) (And.intro trivial (And.intro trivial (And.intro trivial (And.intro trivial (And.intro trivial (And.intro trivial (And.intro rfl (And.intro trivial (And.intro trivial (And.intro trivial (And.intro trivial (And.intro trivial (And.intro trivial (And.intro trivial (And.intro trivial (And.intro trivial (trivial))))))))))))))))))))))))))))))))) rfl rfl (fun X g => ?_)
  have S := st_step S g (Nat.le_of_ble_eq_true rfl)
  have C := st_cx S (by decide) (by decide)
  refine v_putF C (st_m S) dX6_init_82 ff_X6_42 rfl (fun _ => rfl) (fun _ => rfl) (Nat.le_of_ble_eq_true rfl) ?_
  exact v_retA C (st_e S) (Gr.to (st_gr S) (by decide) (by decide)) dX6_init_85 rfl
