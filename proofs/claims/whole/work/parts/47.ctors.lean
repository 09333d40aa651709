/-! the constructors -/
theorem arr_I : Cond.arrayClass .int ∈ lw_g := by decide +kernel
theorem arr_L : Cond.arrayClass .long ∈ lw_g := by decide +kernel
theorem rowF_lt {i k n : Nat} (hn : 20 ≤ n) (e : rowF i = some k) : k < n := by
  match i, e with
  | 0, e => cases e; omega
  | 1, e => cases e; omega
  | 2, e => cases e; omega
  | 3, e => cases e; omega
  | i + 4, e => cases e
/-- the walk of a constructor that began at X0 stands at X -/
def St (own : String) (cc : ByteArray) (nL d n mc ms : Nat) (Post : List PC → Prop) (X0 X : MX) (dc ds : Nat) : Prop := Cx own cc nL none d X0 ∧ EA n mc ms Post X0 ∧ Gr X0 X dc ds n
section ST
variable {own : String} {cc : ByteArray} {nL d n mc ms dc ds : Nat} {Post : List PC → Prop} {X0 X : MX}
theorem st_0 (C : Cx own cc nL none d X) (E : EA n mc ms Post X) : St own cc nL d n mc ms Post X X 0 0 := ⟨C, E, Gr.rf⟩
theorem st_step (S : St own cc nL d n mc ms Post X0 X dc ds) {X' : MX} {a b m : Nat} (g : Gr X X' a b m) (h : n ≤ m) : St own cc nL d n mc ms Post X0 X' (dc + a) (ds + b) := ⟨S.1, S.2.1, S.2.2.trans g h⟩
theorem st_cx (S : St own cc nL d n mc ms Post X0 X dc ds) (h1 : dc ≤ mc) (h2 : ds ≤ ms) : Cx own cc nL none d X := cx_gr S.1 S.2.2 ⟨Nat.le_trans (Nat.add_le_add_left h1 _) S.2.1.2.1.1, Nat.le_trans (Nat.add_le_add_left h2 _) S.2.1.2.1.2⟩
theorem st_room (S : St own cc nL d n mc ms Post X0 X dc ds) {a b : Nat} (h1 : dc + a ≤ mc) (h2 : ds + b ≤ ms) : xcl X + a ≤ (xR X).cells ∧ xsl X + b ≤ (xR X).slots := by
  obtain ⟨C, ⟨_, ⟨r1, r2⟩, _⟩, as', g, rfl⟩ := S
  constructor
  · show xcl X0 + dc + a ≤ (xR X0).cells
    omega
  · show xsl X0 + ds + b ≤ (xR X0).slots
    omega
theorem st_m (S : St own cc nL d n mc ms Post X0 X dc ds) : (xM X).name = "<init>" := by
  obtain ⟨C, ⟨_, _, hm, _⟩, as', g, rfl⟩ := S
  exact hm
theorem st_na (S : St own cc nL d n mc ms Post X0 X dc ds) : NA (xs X) := by
  obtain ⟨C, ⟨_, _, _, ha⟩, as', g, rfl⟩ := S
  exact ha
theorem st_e (S : St own cc nL d n mc ms Post X0 X dc ds) : EA n mc ms Post X0 := S.2.1
theorem st_gr (S : St own cc nL d n mc ms Post X0 X dc ds) : Gr X0 X dc ds n := S.2.2
end ST
theorem ff_X1_18 : FF RX1 18 1 2 (.array .int) := ⟨_, _, _, tyX1, rfl, by decide, by decide +kernel, by decide +kernel, tyX1_ok, nmX1, rfl, rfl, by decide +kernel⟩
theorem ff_X1_22 : FF RX1 22 1 3 (.array .int) := ⟨_, _, _, tyX1, rfl, by decide, by decide +kernel, by decide +kernel, tyX1_ok, nmX1, rfl, rfl, by decide +kernel⟩
theorem ff_X4_13 : FF RX4 13 4 1 (.array .int) := ⟨_, _, _, tyX4, rfl, by decide, by decide +kernel, by decide +kernel, tyX4_ok, nmX4, rfl, rfl, by decide +kernel⟩
theorem ff_X4_18 : FF RX4 18 4 0 (.object "RollPlanner$Job") := ⟨_, _, _, tyX4, rfl, by decide, by decide +kernel, by decide +kernel, tyX4_ok, nmX4, rfl, rfl, by decide +kernel⟩
theorem ff_X3_9 : FF RX3 9 3 2 (.array .int) := ⟨_, _, _, tyX3, rfl, by decide, by decide +kernel, by decide +kernel, tyX3_ok, nmX3, rfl, rfl, by decide +kernel⟩
theorem ff_X3_15 : FF RX3 15 3 3 (.array .int) := ⟨_, _, _, tyX3, rfl, by decide, by decide +kernel, by decide +kernel, tyX3_ok, nmX3, rfl, rfl, by decide +kernel⟩
theorem ff_X3_18 : FF RX3 18 3 4 (.array .int) := ⟨_, _, _, tyX3, rfl, by decide, by decide +kernel, by decide +kernel, tyX3_ok, nmX3, rfl, rfl, by decide +kernel⟩
theorem ff_X3_25 : FF RX3 25 3 0 (.object "RollPlanner$Job") := ⟨_, _, _, tyX3, rfl, by decide, by decide +kernel, by decide +kernel, tyX3_ok, nmX3, rfl, rfl, by decide +kernel⟩
theorem ff_X3_29 : FF RX3 29 3 1 (.object "RollPlanner$Reach") := ⟨_, _, _, tyX3, rfl, by decide, by decide +kernel, by decide +kernel, tyX3_ok, nmX3, rfl, rfl, by decide +kernel⟩
theorem ff_X2_9 : FF RX2 9 2 0 (.array .long) := ⟨_, _, _, tyX2, rfl, by decide, by decide +kernel, by decide +kernel, tyX2_ok, nmX2, rfl, rfl, by decide +kernel⟩
theorem ff_X2_15 : FF RX2 15 2 2 (.array .long) := ⟨_, _, _, tyX2, rfl, by decide, by decide +kernel, by decide +kernel, tyX2_ok, nmX2, rfl, rfl, by decide +kernel⟩
theorem ff_X2_18 : FF RX2 18 2 3 (.array .int) := ⟨_, _, _, tyX2, rfl, by decide, by decide +kernel, by decide +kernel, tyX2_ok, nmX2, rfl, rfl, by decide +kernel⟩
theorem ff_X2_22 : FF RX2 22 2 1 (.object "RollPlanner$Job") := ⟨_, _, _, tyX2, rfl, by decide, by decide +kernel, by decide +kernel, tyX2_ok, nmX2, rfl, rfl, by decide +kernel⟩
theorem ff_X0_20 : FF RX0 20 0 4 (.array (.array .long)) := ⟨_, _, _, tyX0, rfl, by decide, by decide +kernel, by decide +kernel, tyX0_ok, nmX0, rfl, rfl, by decide +kernel⟩
theorem ff_X0_26 : FF RX0 26 0 6 (.array .int) := ⟨_, _, _, tyX0, rfl, by decide, by decide +kernel, by decide +kernel, tyX0_ok, nmX0, rfl, rfl, by decide +kernel⟩
theorem ff_X0_30 : FF RX0 30 0 7 (.array .long) := ⟨_, _, _, tyX0, rfl, by decide, by decide +kernel, by decide +kernel, tyX0_ok, nmX0, rfl, rfl, by decide +kernel⟩
theorem ff_X0_34 : FF RX0 34 0 2 (.object "RollPlanner$Job") := ⟨_, _, _, tyX0, rfl, by decide, by decide +kernel, by decide +kernel, tyX0_ok, nmX0, rfl, rfl, by decide +kernel⟩
theorem ff_X0_38 : FF RX0 38 0 3 (.object "RollPlanner$Knapsack") := ⟨_, _, _, tyX0, rfl, by decide, by decide +kernel, by decide +kernel, tyX0_ok, nmX0, rfl, rfl, by decide +kernel⟩
theorem nc_X5_7 : NC RX5 7 1 [.int 0, .int 0, .null, .null] := ⟨_, _, _, tyX1, rfl, by decide +kernel, tyX1_ok, by decide +kernel, fun as j hj => by match j, hj with | 0, _ => rfl | 1, _ => rfl | 2, _ => rfl | 3, _ => rfl, rfl⟩
theorem ff_X5_10 : FF RX5 10 5 0 (.object "RollPlanner$Job") := ⟨_, _, _, tyX5, rfl, by decide, by decide +kernel, by decide +kernel, tyX5_ok, nmX5, rfl, rfl, by decide +kernel⟩
theorem nc_X5_16 : NC RX5 16 4 [.null, .null] := ⟨_, _, _, tyX4, rfl, by decide +kernel, tyX4_ok, by decide +kernel, fun as j hj => by match j, hj with | 0, _ => rfl | 1, _ => rfl, rfl⟩
theorem li_X5_18 : LkI RX5 18 yX4_init cX4_init 2 1 := ⟨by decide +kernel, rfl, by decide +kernel, by decide⟩
theorem ff_X5_21 : FF RX5 21 5 1 (.object "RollPlanner$Reach") := ⟨_, _, _, tyX5, rfl, by decide, by decide +kernel, by decide +kernel, tyX5_ok, nmX5, rfl, rfl, by decide +kernel⟩
theorem nc_X5_25 : NC RX5 25 3 [.null, .null, .null, .null, .null, .int 0] := ⟨_, _, _, tyX3, rfl, by decide +kernel, tyX3_ok, by decide +kernel, fun as j hj => by match j, hj with | 0, _ => rfl | 1, _ => rfl | 2, _ => rfl | 3, _ => rfl | 4, _ => rfl | 5, _ => rfl, rfl⟩
theorem li_X5_27 : LkI RX5 27 yX3_init cX3_init 3 2 := ⟨by decide +kernel, rfl, by decide +kernel, by decide⟩
theorem ff_X5_30 : FF RX5 30 5 2 (.object "RollPlanner$Plan") := ⟨_, _, _, tyX5, rfl, by decide, by decide +kernel, by decide +kernel, tyX5_ok, nmX5, rfl, rfl, by decide +kernel⟩
theorem nc_X5_34 : NC RX5 34 2 [.null, .null, .null, .null] := ⟨_, _, _, tyX2, rfl, by decide +kernel, tyX2_ok, by decide +kernel, fun as j hj => by match j, hj with | 0, _ => rfl | 1, _ => rfl | 2, _ => rfl | 3, _ => rfl, rfl⟩
theorem li_X5_36 : LkI RX5 36 yX2_init cX2_init 2 1 := ⟨by decide +kernel, rfl, by decide +kernel, by decide⟩
theorem ff_X5_37 : FF RX5 37 5 3 (.object "RollPlanner$Knapsack") := ⟨_, _, _, tyX5, rfl, by decide, by decide +kernel, by decide +kernel, tyX5_ok, nmX5, rfl, rfl, by decide +kernel⟩
theorem nc_X5_41 : NC RX5 41 0 [.long 0, .long 0, .null, .null, .null, .long 0, .null, .null] := ⟨_, _, _, tyX0, rfl, by decide +kernel, tyX0_ok, by decide +kernel, fun as j hj => by match j, hj with | 0, _ => rfl | 1, _ => rfl | 2, _ => rfl | 3, _ => rfl | 4, _ => rfl | 5, _ => rfl | 6, _ => rfl | 7, _ => rfl, rfl⟩
theorem ff_X5_46 : FF RX5 46 5 4 (.object "RollPlanner$Floor") := ⟨_, _, _, tyX5, rfl, by decide, by decide +kernel, by decide +kernel, tyX5_ok, nmX5, rfl, rfl, by decide +kernel⟩
theorem ff_X6_13 : FF RX6 13 6 2 (.array .int) := ⟨_, _, _, tyX6, rfl, by decide, by decide +kernel, by decide +kernel, tyX6_ok, nmX6, rfl, rfl, by decide +kernel⟩
theorem ff_X6_17 : FF RX6 17 6 3 (.array .int) := ⟨_, _, _, tyX6, rfl, by decide, by decide +kernel, by decide +kernel, tyX6_ok, nmX6, rfl, rfl, by decide +kernel⟩
theorem ff_X6_20 : FF RX6 20 6 4 (.array .int) := ⟨_, _, _, tyX6, rfl, by decide, by decide +kernel, by decide +kernel, tyX6_ok, nmX6, rfl, rfl, by decide +kernel⟩
theorem ff_X6_23 : FF RX6 23 6 5 (.array .int) := ⟨_, _, _, tyX6, rfl, by decide, by decide +kernel, by decide +kernel, tyX6_ok, nmX6, rfl, rfl, by decide +kernel⟩
theorem ff_X6_26 : FF RX6 26 6 11 (.array .int) := ⟨_, _, _, tyX6, rfl, by decide, by decide +kernel, by decide +kernel, tyX6_ok, nmX6, rfl, rfl, by decide +kernel⟩
theorem ff_X6_29 : FF RX6 29 6 12 (.array .int) := ⟨_, _, _, tyX6, rfl, by decide, by decide +kernel, by decide +kernel, tyX6_ok, nmX6, rfl, rfl, by decide +kernel⟩
theorem ff_X6_32 : FF RX6 32 6 14 (.array .int) := ⟨_, _, _, tyX6, rfl, by decide, by decide +kernel, by decide +kernel, tyX6_ok, nmX6, rfl, rfl, by decide +kernel⟩
theorem ff_X6_35 : FF RX6 35 6 15 (.array .long) := ⟨_, _, _, tyX6, rfl, by decide, by decide +kernel, by decide +kernel, tyX6_ok, nmX6, rfl, rfl, by decide +kernel⟩
theorem ff_X6_39 : FF RX6 39 6 17 (.array .long) := ⟨_, _, _, tyX6, rfl, by decide, by decide +kernel, by decide +kernel, tyX6_ok, nmX6, rfl, rfl, by decide +kernel⟩
theorem ff_X6_42 : FF RX6 42 6 20 (.array .long) := ⟨_, _, _, tyX6, rfl, by decide, by decide +kernel, by decide +kernel, tyX6_ok, nmX6, rfl, rfl, by decide +kernel⟩
set_option maxHeartbeats 8000000 in
set_option maxRecDepth 100000 in
theorem k_X1 : ConA yX1_init cX1_init 1 1 2 8 [.ref 1] [pO 5 [.null, .null, .null, .null, .null], pO 1 [.int 0, .int 0, .null, .null]] (fun h' => h' = [pO 5 [.null, .null, .null, .null, .null], pO 1 [.int 1, .int 0, .ref 2, .ref 3], pI 4 (fun _ => 0), pI 4 (fun _ => 0)]) := by
  refine con_ofA [(0, .ref 1)] (by decide) rfl (fun _ => Nat.le_of_ble_eq_true rfl) (fun _ => rfl) (fun X C E => ?_)
  have S := st_0 C E
  refine v_aload_n C dX1_init_0 rfl ?_
  refine v_obj C dX1_init_1 (by decide +kernel) (by decide) (by decide) ?_
  refine v_aload_n C dX1_init_4 rfl ?_
  refine v_iconst C (1) dX1_init_5 (by decide) ?_
  refine v_put C dX1_init_6 fp_X1_9 rfl (fun _ => rfl) (fun _ => rfl) (Nat.le_of_ble_eq_true rfl) ?_
  refine v_aload_n C dX1_init_9 rfl ?_
  refine v_iconst C (0) dX1_init_10 (by decide) ?_
  refine v_put C dX1_init_11 fp_X1_15 rfl (fun _ => rfl) (fun _ => rfl) (Nat.le_of_ble_eq_true rfl) ?_
  refine v_aload_n C dX1_init_14 rfl ?_
  refine v_iconst C (4) dX1_init_15 (by decide) ?_
  refine v_eq (h' := [pO 5 [.null, .null, .null, .null, .null], pO 1 [.int 1, .int 0, .null, .null]]) (lv' := [(0, .ref 1)]) (st' := [.int 4, .ref 1]) ?_ rfl rfl rfl rfl
  refine v_newI C 4 dX1_init_16 rfl (by decide) arr_I (st_room S (by decide) (by decide)) (by decide) (And.intro rfl (And.intro rfl (trivial))) rfl rfl (fun X g => ?_)
  have S := st_step S g (Nat.le_of_ble_eq_true rfl)
  have C := st_cx S (by decide) (by decide)
  refine v_putF C (st_m S) dX1_init_18 ff_X1_18 rfl (fun _ => rfl) (fun _ => rfl) (Nat.le_of_ble_eq_true rfl) ?_
  refine v_aload_n C dX1_init_21 rfl ?_
  refine v_iconst C (4) dX1_init_22 (by decide) ?_
  refine v_eq (h' := [pO 5 [.null, .null, .null, .null, .null], pO 1 [.int 1, .int 0, .ref 2, .null], pI 4 (fun _ => 0)]) (lv' := [(0, .ref 1)]) (st' := [.int 4, .ref 1]) ?_ rfl rfl rfl rfl
  refine v_newI C 4 dX1_init_23 rfl (by decide) arr_I (st_room S (by decide) (by decide)) (by decide) (And.intro rfl (And.intro rfl (And.intro trivial (trivial)))) rfl rfl (fun X g => ?_)
  have S := st_step S g (Nat.le_of_ble_eq_true rfl)
  have C := st_cx S (by decide) (by decide)
  refine v_putF C (st_m S) dX1_init_25 ff_X1_22 rfl (fun _ => rfl) (fun _ => rfl) (Nat.le_of_ble_eq_true rfl) ?_
  exact v_retA C (st_e S) (Gr.to (st_gr S) (by decide) (by decide)) dX1_init_28 rfl
set_option maxHeartbeats 8000000 in
set_option maxRecDepth 100000 in
theorem k_X4 : ConA yX4_init cX4_init 2 1 1 2401 [.ref 4, .ref 1] [pO 5 [.ref 1, .null, .null, .null, .null], pO 1 [.int 1, .int 0, .ref 2, .ref 3], pI 4 (fun _ => 0), pI 4 (fun _ => 0), pO 4 [.null, .null]] (fun h' => h' = [pO 5 [.ref 1, .null, .null, .null, .null], pO 1 [.int 1, .int 0, .ref 2, .ref 3], pI 4 (fun _ => 0), pI 4 (fun _ => 0), pO 4 [.ref 1, .ref 5], pI 2401 (fun _ => 0)]) := by
  refine con_ofA [(0, .ref 4), (1, .ref 1)] (by decide) rfl (fun _ => Nat.le_of_ble_eq_true rfl) (fun _ => rfl) (fun X C E => ?_)
  have S := st_0 C E
  refine v_aload_n C dX4_init_0 rfl ?_
  refine v_obj C dX4_init_1 (by decide +kernel) (by decide) (by decide) ?_
  refine v_aload_n C dX4_init_4 rfl ?_
  refine v_getSN C dX4_init_5 (fun _ q => q.2.1) ?_
  refine v_iconst C (4) dX4_init_8 (by decide) ?_
  refine v_step C 4 dX4_init_9 rfl (by decide) ?_
  refine v_eq (h' := [pO 5 [.ref 1, .null, .null, .null, .null], pO 1 [.int 1, .int 0, .ref 2, .ref 3], pI 4 (fun _ => 0), pI 4 (fun _ => 0), pO 4 [.null, .null]]) (lv' := [(0, .ref 4), (1, .ref 1)]) (st' := [.int 2401, .ref 4]) ?_ rfl rfl rfl rfl
  refine v_newI C 2401 dX4_init_10 rfl (by decide) arr_I (st_room S (by decide) (by decide)) (by decide) (And.intro rfl (And.intro rfl (And.intro trivial (And.intro trivial (And.intro rfl (trivial)))))) rfl rfl (fun X g => ?_)
  have S := st_step S g (Nat.le_of_ble_eq_true rfl)
  have C := st_cx S (by decide) (by decide)
  refine v_putF C (st_m S) dX4_init_12 ff_X4_13 rfl (fun _ => rfl) (fun _ => rfl) (Nat.le_of_ble_eq_true rfl) ?_
  refine v_aload_n C dX4_init_15 rfl ?_
  refine v_aload_n C dX4_init_16 rfl ?_
  refine v_putF C (st_m S) dX4_init_17 ff_X4_18 rfl (fun _ => rfl) (fun _ => rfl) (Nat.le_of_ble_eq_true rfl) ?_
  exact v_retA C (st_e S) (Gr.to (st_gr S) (by decide) (by decide)) dX4_init_20 rfl
set_option maxHeartbeats 8000000 in
set_option maxRecDepth 100000 in
theorem k_X3 : ConA yX3_init cX3_init 3 1 3 104 [.ref 6, .ref 1, .ref 4] [pO 5 [.ref 1, .ref 4, .null, .null, .null], pO 1 [.int 1, .int 0, .ref 2, .ref 3], pI 4 (fun _ => 0), pI 4 (fun _ => 0), pO 4 [.ref 1, .ref 5], pI 2401 (fun _ => 0), pO 3 [.null, .null, .null, .null, .null, .int 0]] (fun h' => h' = [pO 5 [.ref 1, .ref 4, .null, .null, .null], pO 1 [.int 1, .int 0, .ref 2, .ref 3], pI 4 (fun _ => 0), pI 4 (fun _ => 0), pO 4 [.ref 1, .ref 5], pI 2401 (fun _ => 0), pO 3 [.ref 1, .ref 4, .ref 7, .ref 8, .ref 9, .int 0], pI 96 (fun _ => 0), pI 4 (fun _ => 0), pI 4 (fun _ => 0)]) := by
  refine con_ofA [(0, .ref 6), (1, .ref 1), (2, .ref 4)] (by decide) rfl (fun _ => Nat.le_of_ble_eq_true rfl) (fun _ => rfl) (fun X C E => ?_)
  have S := st_0 C E
  refine v_aload_n C dX3_init_0 rfl ?_
  refine v_obj C dX3_init_1 (by decide +kernel) (by decide) (by decide) ?_
  refine v_aload_n C dX3_init_4 rfl ?_
  refine v_bipush C (96) dX3_init_5 (by decide) ?_
  refine v_eq (h' := [pO 5 [.ref 1, .ref 4, .null, .null, .null], pO 1 [.int 1, .int 0, .ref 2, .ref 3], pI 4 (fun _ => 0), pI 4 (fun _ => 0), pO 4 [.ref 1, .ref 5], pI 2401 (fun _ => 0), pO 3 [.null, .null, .null, .null, .null, .int 0]]) (lv' := [(0, .ref 6), (1, .ref 1), (2, .ref 4)]) (st' := [.int 96, .ref 6]) ?_ rfl rfl rfl rfl
  refine v_newI C 96 dX3_init_7 rfl (by decide) arr_I (st_room S (by decide) (by decide)) (by decide) (And.intro rfl (And.intro rfl (And.intro trivial (And.intro trivial (And.intro rfl (And.intro trivial (And.intro rfl (trivial)))))))) rfl rfl (fun X g => ?_)
  have S := st_step S g (Nat.le_of_ble_eq_true rfl)
  have C := st_cx S (by decide) (by decide)
  refine v_putF C (st_m S) dX3_init_9 ff_X3_9 rfl (fun _ => rfl) (fun _ => rfl) (Nat.le_of_ble_eq_true rfl) ?_
  refine v_aload_n C dX3_init_12 rfl ?_
  refine v_iconst C (4) dX3_init_13 (by decide) ?_
  refine v_eq (h' := [pO 5 [.ref 1, .ref 4, .null, .null, .null], pO 1 [.int 1, .int 0, .ref 2, .ref 3], pI 4 (fun _ => 0), pI 4 (fun _ => 0), pO 4 [.ref 1, .ref 5], pI 2401 (fun _ => 0), pO 3 [.null, .null, .ref 7, .null, .null, .int 0], pI 96 (fun _ => 0)]) (lv' := [(0, .ref 6), (1, .ref 1), (2, .ref 4)]) (st' := [.int 4, .ref 6]) ?_ rfl rfl rfl rfl
  refine v_newI C 4 dX3_init_14 rfl (by decide) arr_I (st_room S (by decide) (by decide)) (by decide) (And.intro rfl (And.intro rfl (And.intro trivial (And.intro trivial (And.intro rfl (And.intro trivial (And.intro rfl (And.intro trivial (trivial))))))))) rfl rfl (fun X g => ?_)
  have S := st_step S g (Nat.le_of_ble_eq_true rfl)
  have C := st_cx S (by decide) (by decide)
  refine v_putF C (st_m S) dX3_init_16 ff_X3_15 rfl (fun _ => rfl) (fun _ => rfl) (Nat.le_of_ble_eq_true rfl) ?_
  refine v_aload_n C dX3_init_19 rfl ?_
  refine v_iconst C (4) dX3_init_20 (by decide) ?_
  refine v_eq (h' := [pO 5 [.ref 1, .ref 4, .null, .null, .null], pO 1 [.int 1, .int 0, .ref 2, .ref 3], pI 4 (fun _ => 0), pI 4 (fun _ => 0), pO 4 [.ref 1, .ref 5], pI 2401 (fun _ => 0), pO 3 [.null, .null, .ref 7, .ref 8, .null, .int 0], pI 96 (fun _ => 0), pI 4 (fun _ => 0)]) (lv' := [(0, .ref 6), (1, .ref 1), (2, .ref 4)]) (st' := [.int 4, .ref 6]) ?_ rfl rfl rfl rfl
  refine v_newI C 4 dX3_init_21 rfl (by decide) arr_I (st_room S (by decide) (by decide)) (by decide) (And.intro rfl (And.intro rfl (And.intro trivial (And.intro trivial (And.intro rfl (And.intro trivial (And.intro rfl (And.intro trivial (And.intro trivial (trivial)))))))))) rfl rfl (fun X g => ?_)
  have S := st_step S g (Nat.le_of_ble_eq_true rfl)
  have C := st_cx S (by decide) (by decide)
  refine v_putF C (st_m S) dX3_init_23 ff_X3_18 rfl (fun _ => rfl) (fun _ => rfl) (Nat.le_of_ble_eq_true rfl) ?_
  refine v_aload_n C dX3_init_26 rfl ?_
  refine v_iconst C (0) dX3_init_27 (by decide) ?_
  refine v_put C dX3_init_28 fp_X3_21 rfl (fun _ => rfl) (fun _ => rfl) (Nat.le_of_ble_eq_true rfl) ?_
  refine v_aload_n C dX3_init_31 rfl ?_
  refine v_aload_n C dX3_init_32 rfl ?_
  refine v_putF C (st_m S) dX3_init_33 ff_X3_25 rfl (fun _ => rfl) (fun _ => rfl) (Nat.le_of_ble_eq_true rfl) ?_
  refine v_aload_n C dX3_init_36 rfl ?_
  refine v_aload_n C dX3_init_37 rfl ?_
  refine v_putF C (st_m S) dX3_init_38 ff_X3_29 rfl (fun _ => rfl) (fun _ => rfl) (Nat.le_of_ble_eq_true rfl) ?_
  exact v_retA C (st_e S) (Gr.to (st_gr S) (by decide) (by decide)) dX3_init_41 rfl
set_option maxHeartbeats 8000000 in
set_option maxRecDepth 100000 in
theorem k_X2 : ConA yX2_init cX2_init 2 1 3 126 [.ref 10, .ref 1] [pO 5 [.ref 1, .ref 4, .ref 6, .null, .null], pO 1 [.int 1, .int 0, .ref 2, .ref 3], pI 4 (fun _ => 0), pI 4 (fun _ => 0), pO 4 [.ref 1, .ref 5], pI 2401 (fun _ => 0), pO 3 [.ref 1, .ref 4, .ref 7, .ref 8, .ref 9, .int 0], pI 96 (fun _ => 0), pI 4 (fun _ => 0), pI 4 (fun _ => 0), pO 2 [.null, .null, .null, .null]] (fun h' => h' = [pO 5 [.ref 1, .ref 4, .ref 6, .null, .null], pO 1 [.int 1, .int 0, .ref 2, .ref 3], pI 4 (fun _ => 0), pI 4 (fun _ => 0), pO 4 [.ref 1, .ref 5], pI 2401 (fun _ => 0), pO 3 [.ref 1, .ref 4, .ref 7, .ref 8, .ref 9, .int 0], pI 96 (fun _ => 0), pI 4 (fun _ => 0), pI 4 (fun _ => 0), pO 2 [.ref 11, .ref 1, .ref 12, .ref 13], pL 4 (fun _ => 0), pL 61 (fun _ => 0), pI 61 (fun _ => 0)]) := by
  refine con_ofA [(0, .ref 10), (1, .ref 1)] (by decide) rfl (fun _ => Nat.le_of_ble_eq_true rfl) (fun _ => rfl) (fun X C E => ?_)
  have S := st_0 C E
  refine v_aload_n C dX2_init_0 rfl ?_
  refine v_obj C dX2_init_1 (by decide +kernel) (by decide) (by decide) ?_
  refine v_aload_n C dX2_init_4 rfl ?_
  refine v_iconst C (4) dX2_init_5 (by decide) ?_
  refine v_eq (h' := [pO 5 [.ref 1, .ref 4, .ref 6, .null, .null], pO 1 [.int 1, .int 0, .ref 2, .ref 3], pI 4 (fun _ => 0), pI 4 (fun _ => 0), pO 4 [.ref 1, .ref 5], pI 2401 (fun _ => 0), pO 3 [.ref 1, .ref 4, .ref 7, .ref 8, .ref 9, .int 0], pI 96 (fun _ => 0), pI 4 (fun _ => 0), pI 4 (fun _ => 0), pO 2 [.null, .null, .null, .null]]) (lv' := [(0, .ref 10), (1, .ref 1)]) (st' := [.int 4, .ref 10]) ?_ rfl rfl rfl rfl
  refine v_newL C 4 dX2_init_6 rfl (by decide) arr_L (st_room S (by decide) (by decide)) (by decide) (And.intro rfl (And.intro rfl (And.intro trivial (And.intro trivial (And.intro rfl (And.intro trivial (And.intro rfl (And.intro trivial (And.intro trivial (And.intro trivial (And.intro rfl (trivial)))))))))))) rfl rfl (fun X g => ?_)
  have S := st_step S g (Nat.le_of_ble_eq_true rfl)
  have C := st_cx S (by decide) (by decide)
  refine v_putF C (st_m S) dX2_init_8 ff_X2_9 rfl (fun _ => rfl) (fun _ => rfl) (Nat.le_of_ble_eq_true rfl) ?_
  refine v_aload_n C dX2_init_11 rfl ?_
  refine v_bipush C (61) dX2_init_12 (by decide) ?_
  refine v_eq (h' := [pO 5 [.ref 1, .ref 4, .ref 6, .null, .null], pO 1 [.int 1, .int 0, .ref 2, .ref 3], pI 4 (fun _ => 0), pI 4 (fun _ => 0), pO 4 [.ref 1, .ref 5], pI 2401 (fun _ => 0), pO 3 [.ref 1, .ref 4, .ref 7, .ref 8, .ref 9, .int 0], pI 96 (fun _ => 0), pI 4 (fun _ => 0), pI 4 (fun _ => 0), pO 2 [.ref 11, .null, .null, .null], pL 4 (fun _ => 0)]) (lv' := [(0, .ref 10), (1, .ref 1)]) (st' := [.int 61, .ref 10]) ?_ rfl rfl rfl rfl
  refine v_newL C 61 dX2_init_14 rfl (by decide) arr_L (st_room S (by decide) (by decide)) (by decide) (And.intro rfl (And.intro rfl (And.intro trivial (And.intro trivial (And.intro rfl (And.intro trivial (And.intro rfl (And.intro trivial (And.intro trivial (And.intro trivial (And.intro rfl (And.intro trivial (trivial))))))))))))) rfl rfl (fun X g => ?_)
  have S := st_step S g (Nat.le_of_ble_eq_true rfl)
  have C := st_cx S (by decide) (by decide)
  refine v_putF C (st_m S) dX2_init_16 ff_X2_15 rfl (fun _ => rfl) (fun _ => rfl) (Nat.le_of_ble_eq_true rfl) ?_
  refine v_aload_n C dX2_init_19 rfl ?_
  refine v_bipush C (61) dX2_init_20 (by decide) ?_
  refine v_eq (h' := [pO 5 [.ref 1, .ref 4, .ref 6, .null, .null], pO 1 [.int 1, .int 0, .ref 2, .ref 3], pI 4 (fun _ => 0), pI 4 (fun _ => 0), pO 4 [.ref 1, .ref 5], pI 2401 (fun _ => 0), pO 3 [.ref 1, .ref 4, .ref 7, .ref 8, .ref 9, .int 0], pI 96 (fun _ => 0), pI 4 (fun _ => 0), pI 4 (fun _ => 0), pO 2 [.ref 11, .null, .ref 12, .null], pL 4 (fun _ => 0), pL 61 (fun _ => 0)]) (lv' := [(0, .ref 10), (1, .ref 1)]) (st' := [.int 61, .ref 10]) ?_ rfl rfl rfl rfl
  refine v_newI C 61 dX2_init_22 rfl (by decide) arr_I (st_room S (by decide) (by decide)) (by decide) (And.intro rfl (And.intro rfl (And.intro trivial (And.intro trivial (And.intro rfl (And.intro trivial (And.intro rfl (And.intro trivial (And.intro trivial (And.intro trivial (And.intro rfl (And.intro trivial (And.intro trivial (trivial)))))))))))))) rfl rfl (fun X g => ?_)
  have S := st_step S g (Nat.le_of_ble_eq_true rfl)
  have C := st_cx S (by decide) (by decide)
  refine v_putF C (st_m S) dX2_init_24 ff_X2_18 rfl (fun _ => rfl) (fun _ => rfl) (Nat.le_of_ble_eq_true rfl) ?_
  refine v_aload_n C dX2_init_27 rfl ?_
  refine v_aload_n C dX2_init_28 rfl ?_
  refine v_putF C (st_m S) dX2_init_29 ff_X2_22 rfl (fun _ => rfl) (fun _ => rfl) (Nat.le_of_ble_eq_true rfl) ?_
  exact v_retA C (st_e S) (Gr.to (st_gr S) (by decide) (by decide)) dX2_init_32 rfl
