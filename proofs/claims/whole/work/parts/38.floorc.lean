/-! floorTop, floorBottom of the class -/
theorem fF_all (F : SF) : ∃ tp bt dt ρ en sh, F = fF tp bt dt ρ en sh := by
  obtain ⟨tp, bt, dt, ⟨a, b, c, e⟩, en, sh⟩ := F
  exact ⟨tp, bt, dt, fun i => if i = 0 then a else if i = 1 then b else if i = 2 then c else e, en, sh, rfl⟩
theorem floorC : FloorC := by
  intro W n w q h tl ha
  obtain ⟨l, sd, cu, re, pa, N, F, ok, hq, hs, hN, rfl⟩ := ha
  obtain ⟨hn, hW, hW2, hw, hl⟩ := id ok
  obtain ⟨tp, bt, dt, ρ, en, sh, rfl⟩ := fF_all F
  constructor
  · refine con_of [(0, .ref 0)] (by decide) (fun _ => Nat.le_of_ble_eq_true rfl) (fun _ => rfl) (fun X C E => ?_)
    refine v_aload_n C dX5_floorTop_0 rfl ?_
    refine v_get C dX5_floorTop_1 fl_X5_46 rfl rfl ?_
    refine v_callV C dX5_floorTop_4 lk_X5_110 (c_find (d := 3) hn hW2 hw hq hN.1 (by decide)) (by omega) rfl rfl rfl rfl rfl (Nat.le_of_ble_eq_true rfl) ?_
    rintro r h' ⟨rfl, N', T, B, dt', ρ', en', sh', hb, hf, rfl⟩
    refine v_aload_n C dX5_floorTop_7 rfl ?_
    refine v_get C dX5_floorTop_8 fl_X5_46 rfl rfl ?_
    refine v_get C dX5_floorTop_11 fl_X5_113 rfl rfl ?_
    exact v_lret C E dX5_floorTop_14 ⟨⟨l, sd, cu, re, pa, N', _, ok, hq, hs, ⟨hb, hN.2⟩, rfl⟩, T, B, hf, rfl⟩
  · refine con_of [(0, .ref 0)] (by decide) (fun _ => Nat.le_of_ble_eq_true rfl) (fun _ => rfl) (fun X C E => ?_)
    refine v_aload_n C dX5_floorBottom_0 rfl ?_
    refine v_get C dX5_floorBottom_1 fl_X5_46 rfl rfl ?_
    refine v_callV C dX5_floorBottom_4 lk_X5_110 (c_find (d := 3) hn hW2 hw hq hN.1 (by decide)) (by omega) rfl rfl rfl rfl rfl (Nat.le_of_ble_eq_true rfl) ?_
    rintro r h' ⟨rfl, N', T, B, dt', ρ', en', sh', hb, hf, rfl⟩
    refine v_aload_n C dX5_floorBottom_7 rfl ?_
    refine v_get C dX5_floorBottom_8 fl_X5_46 rfl rfl ?_
    refine v_get C dX5_floorBottom_11 fl_X5_117 rfl rfl ?_
    exact v_lret C E dX5_floorBottom_14 ⟨⟨l, sd, cu, re, pa, N', _, ok, hq, hs, ⟨hb, hN.2⟩, rfl⟩, T, B, hf, rfl⟩
