/-! the reference's rolls, cut, with -/
def MA (W n : Nat) (w q : Nat → Nat) (c : Nat → PC) (h : List PC) : Prop := ∃ (fe pn : Nat → Nat) (pd : Nat) (ik : Int32) (D : Nat → Int32) (G : SG), MOk W n w q ∧ (∀ j, j < 2401 → fe j ≤ 99) ∧ (ik = 0 ∨ (ik = 1 ∧ Known W n w q fe pn pd)) ∧ h = hM c (jJ W n w q) (iN fe, iN pn, nI pd, ik) D G
section MAPI
variable {c : Nat → PC} {W n : Nat} {w q fe pn : Nat → Nat} {pd : Nat} {ik : Int32} {D : Nat → Int32} {G : SG} {d : Nat}
set_option maxHeartbeats 4000000 in
set_option maxRecDepth 100000 in
theorem m_rolls (ok : MOk W n w q) (hfe : ∀ j, j < 2401 → fe j ≤ 99) (hk : ik = 0 ∨ (ik = 1 ∧ Known W n w q fe pn pd)) (hd : 3 ≤ d) : Con yX6_rolls cX6_rolls 1 (some .int) d [.ref 22] (hM c (jJ W n w q) (iN fe, iN pn, nI pd, ik) D G) (fun r h' => ∃ fe' pn' pd', (∀ j, j < 2401 → fe' j ≤ 99) ∧ Known W n w q fe' pn' pd' ∧ r = some (.int (nI pd')) ∧ h' = hM c (jJ W n w q) (iN fe', iN pn', nI pd', 1) D G) := by
  refine con_of [(0, .ref 22)] (by decide) (fun _ => Nat.le_of_ble_eq_true rfl) (fun _ => rfl) (fun X C E => ?_)
  refine v_aload_n C dX6_rolls_0 rfl ?_
  refine v_callV C dX6_rolls_1 lk_X6_87 (m_learn (d := 2) ok hfe hk (by decide)) (by omega) rfl rfl rfl rfl rfl (Nat.le_of_ble_eq_true rfl) ?_
  rintro r h' ⟨rfl, fe', pn', pd', h1, h2, rfl⟩
  refine v_aload_n C dX6_rolls_4 rfl ?_
  refine v_get C dX6_rolls_5 fl_X6_80 rfl rfl ?_
  exact v_iret C E dX6_rolls_8 ⟨fe', pn', pd', h1, h2, rfl, rfl⟩
set_option maxHeartbeats 4000000 in
set_option maxRecDepth 100000 in
theorem m_cut (x y : Int32) (ok : MOk W n w q) (hfe : ∀ j, j < 2401 → fe j ≤ 99) (hk : ik = 0 ∨ (ik = 1 ∧ Known W n w q fe pn pd)) (hd : 3 ≤ d) : Con yX6_cut cX6_cut 3 (some .int) d [.ref 22, .int x, .int y] (hM c (jJ W n w q) (iN fe, iN pn, nI pd, ik) D G) (fun r h' => ∃ fe' pn' pd', (∀ j, j < 2401 → fe' j ≤ 99) ∧ Known W n w q fe' pn' pd' ∧ h' = hM c (jJ W n w q) (iN fe', iN pn', nI pd', 1) D G ∧ ((¬ CutOk n pd' x y ∧ r = some (.int (-1))) ∨ ∃ i k, i < pd' ∧ k < n ∧ x = nI i ∧ y = nI k ∧ r = some (.int (nI (pn' (4 * i + k)))))) := by
  have hn := ok.1
  refine con_of [(0, .ref 22), (1, .int x), (2, .int y)] (by decide) (fun _ => Nat.le_of_ble_eq_true rfl) (fun _ => rfl) (fun X C E => ?_)
  refine v_aload_n C dX6_cut_0 rfl ?_
  refine v_callV C dX6_cut_1 lk_X6_87 (m_learn (d := 2) ok hfe hk (by decide)) (by omega) rfl rfl rfl rfl rfl (Nat.le_of_ble_eq_true rfl) ?_
  rintro r h' ⟨rfl, fe', pn', pd', h1, h2, rfl⟩
  have h24 := h2.2.1
  have no : ¬ CutOk n pd' x y → V 3 X (hM c (jJ W n w q) (iN fe', iN pn', nI pd', 1) D G) 41 [(0, .ref 22), (1, .int x), (2, .int y)] [] := by
    intro z
    refine v_iconst C (-1) dX6_cut_41 (by decide) ?_
    exact v_iret C E dX6_cut_42 ⟨fe', pn', pd', h1, h2, rfl, Or.inl ⟨z, rfl⟩⟩
  refine v_iload_n C dX6_cut_4 rfl ?_
  refine v_if_lt C 41 dX6_cut_5 (by decide) (fun c1 => ?_) (fun c1 => ?_)
  · exact no (fun z => z.2.1 c1)
  refine v_iload_n C dX6_cut_8 rfl ?_
  refine v_aload_n C dX6_cut_9 rfl ?_
  refine v_get C dX6_cut_10 fl_X6_80 rfl rfl ?_
  refine v_icmp_ge C 41 dX6_cut_13 (by decide) (fun c2 => ?_) (fun c2 => ?_)
  · exact no (fun z => absurd z.2.2 (Int32.not_lt.mpr c2))
  have c2 : x < nI pd' := Int32.not_le.mp c2
  refine v_iload_n C dX6_cut_16 rfl ?_
  refine v_if_lt C 41 dX6_cut_17 (by decide) (fun c3 => ?_) (fun c3 => ?_)
  · exact no (fun z => z.1.1 c3)
  refine v_iload_n C dX6_cut_20 rfl ?_
  refine v_aload_n C dX6_cut_21 rfl ?_
  refine v_get C dX6_cut_22 fl_X6_52 rfl rfl ?_
  refine v_icmp_ge C 41 dX6_cut_25 (by decide) (fun c4 => ?_) (fun c4 => ?_)
  · exact no (fun z => absurd z.1.2 (Int32.not_lt.mpr c4))
  have c4 : y < nI n := Int32.not_le.mp c4
  obtain ⟨k, hk1, rfl⟩ := nI_of c3
  have hkn : k < n := (nI_ltI hk1 (by omega)).mp c4
  obtain ⟨i, hi1, rfl⟩ := nI_of c1
  have him : i < pd' := (nI_ltI hi1 (by omega)).mp c2
  refine v_aload_n C dX6_cut_28 rfl ?_
  refine v_get C dX6_cut_29 fl_X6_23 rfl rfl ?_
  refine v_iconst C (4) dX6_cut_32 (by decide) ?_
  refine v_iload_n C dX6_cut_33 rfl ?_
  refine v_imul C dX6_cut_34 ?_
  refine v_iload_n C dX6_cut_35 rfl ?_
  refine v_iadd C dX6_cut_36 ?_
  refine v_iald C (4 * i + k) dX6_cut_37 rfl (by show nI 4 * nI i + nI k = _; rw [pk_mul, nI_add]) (by omega) (by decide) ?_
  refine v_goto C 42 dX6_cut_38 (by decide) ?_
  exact v_iret C E dX6_cut_42 ⟨fe', pn', pd', h1, h2, rfl, Or.inr ⟨i, k, him, hkn, rfl, rfl, rfl⟩⟩
set_option maxHeartbeats 8000000 in
set_option maxRecDepth 100000 in
theorem m_with (x0 x1 x2 x3 : Int32) (ok : MOk W n w q) (hfe : ∀ j, j < 2401 → fe j ≤ 99) (hk : ik = 0 ∨ (ik = 1 ∧ Known W n w q fe pn pd)) (hd : 3 ≤ d) : Con yX6_with cX6_with 8 (some .int) d [.ref 22, .int x0, .int x1, .int x2, .int x3] (hM c (jJ W n w q) (iN fe, iN pn, nI pd, ik) D G) (fun r h' => (¬ WithOk W (qn n w) (qn n q) x0 x1 x2 x3 ∧ r = some (.int (-1)) ∧ h' = hM c (jJ W n w q) (iN fe, iN pn, nI pd, ik) D G) ∨ ∃ a0 a1 a2 a3 m fe' pn' pd', x0 = nI a0 ∧ x1 = nI a1 ∧ x2 = nI a2 ∧ x3 = nI a3 ∧ (∀ k, k < 4 → v4 a0 a1 a2 a3 k ≤ qn n q k) ∧ wt (qn n w) (v4 a0 a1 a2 a3) ≤ W ∧ IsF W (qn n w) (vsub (qn n q) (v4 a0 a1 a2 a3)) m ∧ r = some (.int (nI (1 + m))) ∧ (∀ j, j < 2401 → fe' j ≤ 99) ∧ Known W n w q fe' pn' pd' ∧ h' = hM c (jJ W n w q) (iN fe', iN pn', nI pd', 1) D G) := by
  have hn := ok.1
  have hq6 := qn_le ok
  have hw60 := wn_le ok
  refine con_of [(0, .ref 22), (1, .int x0), (2, .int x1), (3, .int x2), (4, .int x3)] (by decide) (fun _ => Nat.le_of_ble_eq_true rfl) (fun _ => rfl) (fun X C E => ?_)
  have tail : ∀ (k : Nat), k < 4 → ∀ (B : Nat) (y : Int32), ((¬ ∃ a, a ≤ qn n q k ∧ y = nI a) → ¬ WithOk W (qn n w) (qn n q) x0 x1 x2 x3) → (∀ a, a ≤ qn n q k → y = nI a → V 8 X (hM c (jJ W n w q) (iN fe, iN pn, nI pd, ik) D G) 6 [(0, .ref 22), (1, .int x0), (2, .int x1), (3, .int x2), (4, .int x3), (5, .int (nI (7 * B + a))), (6, .int (nI (k + 1)))] []) →
      V 8 X (hM c (jJ W n w q) (iN fe, iN pn, nI pd, ik) D G) 43 [(0, .ref 22), (1, .int x0), (2, .int x1), (3, .int x2), (4, .int x3), (5, .int (nI B)), (6, .int (nI k))] [.int y] := by
    intro k hk4 B y hno hyes
    have hqk := hq6 k hk4
    have no : (¬ ∃ a, a ≤ qn n q k ∧ y = nI a) → V 8 X (hM c (jJ W n w q) (iN fe, iN pn, nI pd, ik) D G) 61 [(0, .ref 22), (1, .int x0), (2, .int x1), (3, .int x2), (4, .int x3), (5, .int (nI B)), (6, .int (nI k)), (7, .int y)] [] := by
      intro z
      refine v_iconst C (-1) dX6_with_61 (by decide) ?_
      exact v_iret C E dX6_with_62 (Or.inl ⟨hno z, rfl, rfl⟩)
    refine v_istore C dX6_with_43 (by decide) ?_
    refine v_iload C dX6_with_45 rfl ?_
    refine v_if_lt C 61 dX6_with_47 (by decide) (fun c1 => ?_) (fun c1 => ?_)
    · exact no (fun ⟨a, h1, h2⟩ => nI_pos (n := a) (by omega) (h2 ▸ c1))
    refine v_iload C dX6_with_50 rfl ?_
    refine v_aload_n C dX6_with_52 rfl ?_
    refine v_iload C dX6_with_53 rfl ?_
    refine v_callV C dX6_with_55 lk_X6_66 (m_demandOf (d := 0) k hk4 hn) (by omega) rfl rfl rfl rfl rfl (Nat.le_of_ble_eq_true rfl) ?_
    rintro r h' ⟨rfl, rfl⟩
    refine v_icmp_le C 63 dX6_with_58 (by decide) (fun c2 => ?_) (fun c2 => ?_)
    · obtain ⟨a, ha, rfl⟩ := nI_of2 (M := nI (qn n q k)) (n := qn n q k) (nI_toInt (by omega)) c1 c2
      refine v_bipush C (7) dX6_with_63 (by decide) ?_
      refine v_iload C dX6_with_65 rfl ?_
      refine v_imul C dX6_with_67 ?_
      refine v_iload C dX6_with_68 rfl ?_
      refine v_iadd C dX6_with_70 ?_
      refine v_istore C dX6_with_71 (by decide) ?_
      refine v_iinc C dX6_with_73 rfl (nI_1 k) (by decide) ?_
      refine v_goto C 6 dX6_with_76 (by decide) ?_
      refine v_keep [0, 1, 2, 3, 4, 5, 6] (v_eq (hyes a ha rfl) rfl rfl ?_ rfl)
      show [(0, Value.ref 22), (1, .int x0), (2, .int x1), (3, .int x2), (4, .int x3), (5, .int (nI 7 * nI B + nI a)), (6, .int (nI (k + 1)))] = _
      rw [pk_mul, nI_add]
    · exact no (fun ⟨a, h1, h2⟩ => c2 (by rw [h2]; exact nI_le h1 (by omega)))
  refine v_iconst C (0) dX6_with_0 (by decide) ?_
  refine v_istore C dX6_with_1 (by decide) ?_
  refine v_iconst C (0) dX6_with_3 (by decide) ?_
  refine v_istore C dX6_with_4 (by decide) ?_
  -- kind 0
  refine v_iload C dX6_with_6 rfl ?_
  refine v_iconst C (4) dX6_with_8 (by decide) ?_
  refine v_icmp_ge C 79 dX6_with_9 (by decide) (fun q => absurd q ((by decide))) (fun _ => ?_)
  refine v_iload C dX6_with_12 rfl ?_
  refine v_if_ne C 21 dX6_with_14 (by decide) (fun q => absurd q ((by decide))) (fun _ => ?_)
  refine v_iload_n C dX6_with_17 rfl ?_
  refine v_goto C 43 dX6_with_18 (by decide) ?_
  refine tail 0 (by decide) 0 x0 (fun z ⟨a0, a1, a2, a3, e0, e1, e2, e3, h0, h1, h2, h3, h4⟩ => z ⟨a0, h0, e0⟩) (fun a0 g0 e0 => ?_)
  -- kind 1
  refine v_iload C dX6_with_6 rfl ?_
  refine v_iconst C (4) dX6_with_8 (by decide) ?_
  refine v_icmp_ge C 79 dX6_with_9 (by decide) (fun q => absurd q ((by decide))) (fun _ => ?_)
  refine v_iload C dX6_with_12 rfl ?_
  refine v_if_ne C 21 dX6_with_14 (by decide) (fun _ => ?_) (fun q => absurd q ((by decide)))
  refine v_iload C dX6_with_21 rfl ?_
  refine v_iconst C (1) dX6_with_23 (by decide) ?_
  refine v_icmp_ne C 31 dX6_with_24 (by decide) (fun q => absurd q ((by decide))) (fun _ => ?_)
  refine v_iload_n C dX6_with_27 rfl ?_
  refine v_goto C 43 dX6_with_28 (by decide) ?_
  refine tail 1 (by decide) (7 * 0 + a0) x1 (fun z ⟨a0, a1, a2, a3, e0, e1, e2, e3, h0, h1, h2, h3, h4⟩ => z ⟨a1, h1, e1⟩) (fun a1 g1 e1 => ?_)
  -- kind 2
  refine v_iload C dX6_with_6 rfl ?_
  refine v_iconst C (4) dX6_with_8 (by decide) ?_
  refine v_icmp_ge C 79 dX6_with_9 (by decide) (fun q => absurd q ((by decide))) (fun _ => ?_)
  refine v_iload C dX6_with_12 rfl ?_
  refine v_if_ne C 21 dX6_with_14 (by decide) (fun _ => ?_) (fun q => absurd q ((by decide)))
  refine v_iload C dX6_with_21 rfl ?_
  refine v_iconst C (1) dX6_with_23 (by decide) ?_
  refine v_icmp_ne C 31 dX6_with_24 (by decide) (fun _ => ?_) (fun q => absurd q ((by decide)))
  refine v_iload C dX6_with_31 rfl ?_
  refine v_iconst C (2) dX6_with_33 (by decide) ?_
  refine v_icmp_ne C 41 dX6_with_34 (by decide) (fun q => absurd q ((by decide))) (fun _ => ?_)
  refine v_iload_n C dX6_with_37 rfl ?_
  refine v_goto C 43 dX6_with_38 (by decide) ?_
  refine tail 2 (by decide) (7 * (7 * 0 + a0) + a1) x2 (fun z ⟨a0, a1, a2, a3, e0, e1, e2, e3, h0, h1, h2, h3, h4⟩ => z ⟨a2, h2, e2⟩) (fun a2 g2 e2 => ?_)
  -- kind 3
  refine v_iload C dX6_with_6 rfl ?_
  refine v_iconst C (4) dX6_with_8 (by decide) ?_
  refine v_icmp_ge C 79 dX6_with_9 (by decide) (fun q => absurd q ((by decide))) (fun _ => ?_)
  refine v_iload C dX6_with_12 rfl ?_
  refine v_if_ne C 21 dX6_with_14 (by decide) (fun _ => ?_) (fun q => absurd q ((by decide)))
  refine v_iload C dX6_with_21 rfl ?_
  refine v_iconst C (1) dX6_with_23 (by decide) ?_
  refine v_icmp_ne C 31 dX6_with_24 (by decide) (fun _ => ?_) (fun q => absurd q ((by decide)))
  refine v_iload C dX6_with_31 rfl ?_
  refine v_iconst C (2) dX6_with_33 (by decide) ?_
  refine v_icmp_ne C 41 dX6_with_34 (by decide) (fun _ => ?_) (fun q => absurd q ((by decide)))
  refine v_iload C dX6_with_41 rfl ?_
  refine tail 3 (by decide) (7 * (7 * (7 * 0 + a0) + a1) + a2) x3 (fun z ⟨a0, a1, a2, a3, e0, e1, e2, e3, h0, h1, h2, h3, h4⟩ => z ⟨a3, h3, e3⟩) (fun a3 g3 e3 => ?_)
  refine v_iload C dX6_with_6 rfl ?_
  refine v_iconst C (4) dX6_with_8 (by decide) ?_
  refine v_icmp_ge C 79 dX6_with_9 (by decide) (fun _ => ?_) (fun q => absurd ((by decide)) q)
  have hle : ∀ k, k < 4 → v4 a0 a1 a2 a3 k ≤ qn n q k := all4 g0 g1 g2 g3
  have hv6 : ∀ k, k < 4 → v4 a0 a1 a2 a3 k ≤ 6 := fun k hk => Nat.le_trans (hle k hk) (hq6 k hk)
  have hlt := bc_lt hv6
  have hdv := dv_bc hv6
  have hbl := bc_le hle
  have hql := bc_lt hq6
  refine v_eq (lv' := [(0, .ref 22), (1, .int x0), (2, .int x1), (3, .int x2), (4, .int x3), (5, .int (nI (bcN (v4 a0 a1 a2 a3)))), (6, .int (nI 4))]) ?_ rfl rfl ?_ rfl
  case refine_2 =>
    rw [show 7 * (7 * (7 * (7 * 0 + a0) + a1) + a2) + a3 = bcN (v4 a0 a1 a2 a3) by simp only [bcN, v4]; omega]
  refine v_aload_n C dX6_with_79 rfl ?_
  refine v_iload C dX6_with_80 rfl ?_
  refine v_callV C dX6_with_82 lk_X6_83 (m_fits (d := 1) (bcN (v4 a0 a1 a2 a3)) hlt hn ok.2.2.1 hw60 (by decide)) (by omega) rfl rfl rfl rfl rfl (Nat.le_of_ble_eq_true rfl) ?_
  rintro r h' ⟨hr, rfl⟩
  rw [wt_congr hdv] at hr
  rcases hr with ⟨rfl, hft⟩ | ⟨rfl, hft⟩
  case inr =>
    refine v_if_ne C 90 dX6_with_85 (by decide) (fun z => absurd rfl z) (fun _ => ?_)
    refine v_iconst C (-1) dX6_with_88 (by decide) ?_
    refine v_iret C E dX6_with_89 (Or.inl ⟨?_, rfl, rfl⟩)
    rintro ⟨b0, b1, b2, b3, f0, f1, f2, f3, h0, h1, h2, h3, h4⟩
    have i0 := hq6 0 (by omega)
    have i1 := hq6 1 (by omega)
    have i2 := hq6 2 (by omega)
    have i3 := hq6 3 (by omega)
    have k0 := (nI_eq (a := a0) (b := b0) (by omega) (by omega)).mp (e0.symm.trans f0)
    have k1 := (nI_eq (a := a1) (b := b1) (by omega) (by omega)).mp (e1.symm.trans f1)
    have k2 := (nI_eq (a := a2) (b := b2) (by omega) (by omega)).mp (e2.symm.trans f2)
    have k3 := (nI_eq (a := a3) (b := b3) (by omega) (by omega)).mp (e3.symm.trans f3)
    subst k0; subst k1; subst k2; subst k3
    exact hft h4
  refine v_if_ne C 90 dX6_with_85 (by decide) (fun _ => ?_) (fun z => absurd z (by decide))
  refine v_aload_n C dX6_with_90 rfl ?_
  refine v_callV C dX6_with_91 lk_X6_87 (m_learn (d := 2) ok hfe hk (by decide)) (by omega) rfl rfl rfl rfl rfl (Nat.le_of_ble_eq_true rfl) ?_
  rintro r h' ⟨rfl, fe', pn', pd', h1, h2, rfl⟩
  refine v_iconst C (1) dX6_with_94 (by decide) ?_
  refine v_aload_n C dX6_with_95 rfl ?_
  refine v_get C dX6_with_96 fl_X6_20 rfl rfl ?_
  refine v_aload_n C dX6_with_99 rfl ?_
  refine v_callV C dX6_with_100 lk_X6_69 (m_all (d := 1) hn (by decide)) (by omega) rfl rfl rfl rfl rfl (Nat.le_of_ble_eq_true rfl) ?_
  rintro r h' ⟨rfl, rfl⟩
  refine v_iload C dX6_with_103 rfl ?_
  refine v_isub C dX6_with_105 ?_
  have hvs : ∀ k, k < 4 → vsub (qn n q) (v4 a0 a1 a2 a3) k ≤ qn n q k := fun k _ => Nat.sub_le _ _
  obtain ⟨r1, r2⟩ := h2.2.2.2 _ hvs
  refine v_iald C (bcN (vsub (qn n q) (v4 a0 a1 a2 a3))) dX6_with_106 rfl (by rw [pk_sub hbl, bc_sub hle]) (by rw [← bc_sub hle]; omega) (by decide) ?_
  refine v_iadd C dX6_with_107 ?_
  refine v_iret C E dX6_with_108 (Or.inr ⟨a0, a1, a2, a3, fe' (bcN (vsub (qn n q) (v4 a0 a1 a2 a3))), fe', pn', pd', e0, e1, e2, e3, hle, hft, r1, ?_, h1, h2, rfl⟩)
  show some (Value.int (nI 1 + nI (fe' (bcN (vsub (qn n q) (v4 a0 a1 a2 a3)))))) = _
  rw [nI_add]
end MAPI
