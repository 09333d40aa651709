/-! the reference: RollPlannerModel, label 22 -/
abbrev SG : Type := Int32 × Int64 × Int64 × (Nat → Int32) × Int32 × (Nat → Int32) × (Nat → Int64) × Int64 × (Nat → Int64) × Int64 × Int64 × (Nat → Int64)
def hd22 (c : Nat → PC) (t : List PC) : List PC := c 0 :: c 1 :: c 2 :: c 3 :: c 4 :: c 5 :: c 6 :: c 7 :: c 8 :: c 9 :: c 10 :: c 11 :: c 12 :: c 13 :: c 14 :: c 15 :: c 16 :: c 17 :: c 18 :: c 19 :: c 20 :: c 21 :: t
abbrev SM : Type := Int32 × Int32 × (Nat → Int32) × (Nat → Int32)
abbrev SQ : Type := (Nat → Int32) × (Nat → Int32) × Int32 × Int32
/-- G: isFloorKnown, top, bottom, rows, rowCount, chosen, corner, under, bestCorner, bestUnder, bestMade, work; Q: fewest, plan, planned, isKnown; M: width, kinds, widths, demands -/
def mt (M : SM) (Q : SQ) (D : Nat → Int32) (G : SG) : List PC :=
  [pO 6 [.int M.1, .int M.2.1, .ref 23, .ref 24, .ref 25, .ref 26, .int Q.2.2.1, .int Q.2.2.2, .int G.1, .long G.2.1, .long G.2.2.1, .ref 27, .ref 28, .int G.2.2.2.2.1, .ref 29, .ref 30, .long G.2.2.2.2.2.2.2.1, .ref 31, .long G.2.2.2.2.2.2.2.2.2.1, .long G.2.2.2.2.2.2.2.2.2.2.1, .ref 32],
   pI 4 M.2.2.1, pI 4 M.2.2.2, pI 2401 Q.1, pI 96 Q.2.1, pI 4 D, pI 1000 G.2.2.2.1, pI 4 G.2.2.2.2.2.1, pL 4 G.2.2.2.2.2.2.1, pL 4 G.2.2.2.2.2.2.2.2.1, pL 16 G.2.2.2.2.2.2.2.2.2.2.2]
def hM (c : Nat → PC) (M : SM) (Q : SQ) (D : Nat → Int32) (G : SG) : List PC := hd22 c (mt M Q D G)
def qn (n : Nat) (q : Nat → Nat) : Nat → Nat := fun k => if k < n then q k else 0
section MODEL
variable {c : Nat → PC} {W n : Nat} {w q : Nat → Nat} {Q : SQ} {D : Nat → Int32} {G : SG} {d : Nat}
set_option maxHeartbeats 4000000 in
set_option maxRecDepth 100000 in
theorem m_change {M : SM} : Con yX6_change cX6_change 1 none d [.ref 22] (hM c M Q D G) (fun r h' => r = none ∧ h' = hM c M (Q.1, Q.2.1, Q.2.2.1, 0) D (0, G.2)) := by
  refine con_of [(0, .ref 22)] (by decide) (fun _ => Nat.le_of_ble_eq_true rfl) (fun _ => rfl) (fun X C E => ?_)
  refine v_aload_n C dX6_change_0 rfl ?_
  refine v_iconst C (0) dX6_change_1 (by decide) ?_
  refine v_put C dX6_change_2 fp_X6_45 rfl (fun _ => rfl) (fun _ => rfl) (Nat.le_of_ble_eq_true rfl) ?_
  refine v_aload_n C dX6_change_5 rfl ?_
  refine v_iconst C (0) dX6_change_6 (by decide) ?_
  refine v_put C dX6_change_7 fp_X6_49 rfl (fun _ => rfl) (fun _ => rfl) (Nat.le_of_ble_eq_true rfl) ?_
  exact v_vret C E dX6_change_10 ⟨rfl, rfl⟩
set_option maxHeartbeats 4000000 in
set_option maxRecDepth 100000 in
theorem m_begin (x : Int32) (hd : 1 ≤ d) : Con yX6_begin cX6_begin 2 (some .boolean) d [.ref 22, .int x] (hM c (jJ W n w q) Q D G) (fun r h' => (¬ (¬ x < 1 ∧ x ≤ 60) ∧ r = some (.int 0) ∧ h' = hM c (jJ W n w q) Q D G) ∨ ∃ V1, x = nI V1 ∧ 1 ≤ V1 ∧ V1 ≤ 60 ∧ r = some (.int 1) ∧ h' = hM c (jJ V1 0 w q) (Q.1, Q.2.1, Q.2.2.1, 0) D (0, G.2)) := by
  refine con_of [(0, .ref 22), (1, .int x)] (by decide) (fun _ => Nat.le_of_ble_eq_true rfl) (fun _ => rfl) (fun X C E => ?_)
  refine v_iload_n C dX6_begin_0 rfl ?_
  refine v_iconst C (1) dX6_begin_1 (by decide) ?_
  refine v_icmp_lt C 11 dX6_begin_2 (by decide) (fun c1 => ?_) (fun c1 => ?_)
  · refine v_iconst C (0) dX6_begin_11 (by decide) ?_
    exact v_zret C E dX6_begin_12 rfl (Or.inl ⟨fun z => z.1 c1, rfl, rfl⟩)
  · refine v_iload_n C dX6_begin_5 rfl ?_
    refine v_bipush C (60) dX6_begin_6 (by decide) ?_
    refine v_icmp_le C 13 dX6_begin_8 (by decide) (fun c2 => ?_) (fun c2 => ?_)
    · obtain ⟨V1, h1, rfl⟩ := nI_of2 (M := 60) (n := 60) rfl (fun z => c1 (Int32.lt_trans z (by decide))) c2
      have h0 : 1 ≤ V1 := Nat.pos_of_ne_zero (fun z => c1 (by rw [z]; decide))
      refine v_aload_n C dX6_begin_13 rfl ?_
      refine v_iload_n C dX6_begin_14 rfl ?_
      refine v_put C dX6_begin_15 fp_X6_7 rfl (fun _ => rfl) (fun _ => rfl) (Nat.le_of_ble_eq_true rfl) ?_
      refine v_aload_n C dX6_begin_18 rfl ?_
      refine v_iconst C (0) dX6_begin_19 (by decide) ?_
      refine v_put C dX6_begin_20 fp_X6_52 rfl (fun _ => rfl) (fun _ => rfl) (Nat.le_of_ble_eq_true rfl) ?_
      refine v_aload_n C dX6_begin_23 rfl ?_
      refine v_callV C dX6_begin_24 lk_X6_55 (m_change (d := 0) (c := c) (M := jJ V1 0 w q) (Q := Q) (D := D) (G := G)) hd rfl rfl rfl rfl rfl (Nat.le_of_ble_eq_true rfl) ?_
      rintro r h' ⟨rfl, rfl⟩
      refine v_iconst C (1) dX6_begin_27 (by decide) ?_
      exact v_zret C E dX6_begin_28 rfl (Or.inr ⟨V1, rfl, h0, h1, rfl, rfl⟩)
    · refine v_iconst C (0) dX6_begin_11 (by decide) ?_
      exact v_zret C E dX6_begin_12 rfl (Or.inl ⟨fun z => c2 z.2, rfl, rfl⟩)
set_option maxHeartbeats 4000000 in
set_option maxRecDepth 100000 in
theorem m_kind (x y : Int32) (hn : n ≤ 4) (hW2 : W ≤ 60) (hd : 1 ≤ d) : Con yX6_kind cX6_kind 3 (some .int) d [.ref 22, .int x, .int y] (hM c (jJ W n w q) Q D G) (fun r h' => (¬ KindOk W n x y ∧ r = some (.int (-1)) ∧ h' = hM c (jJ W n w q) Q D G) ∨ ∃ a b, KindOk W n x y ∧ x = nI a ∧ y = nI b ∧ a ≤ W ∧ 1 ≤ a ∧ b ≤ 6 ∧ r = some (.int (nI n)) ∧ h' = hM c (jJ W (n + 1) (va_up w n a) (va_up q n b)) (Q.1, Q.2.1, Q.2.2.1, 0) D (0, G.2)) := by
  refine con_of [(0, .ref 22), (1, .int x), (2, .int y)] (by decide) (fun _ => Nat.le_of_ble_eq_true rfl) (fun _ => rfl) (fun X C E => ?_)
  have no : ¬ KindOk W n x y → V 3 X (hM c (jJ W n w q) Q D G) 31 [(0, .ref 22), (1, .int x), (2, .int y)] [] := by
    intro z
    refine v_iconst C (-1) dX6_kind_31 (by decide) ?_
    exact v_iret C E dX6_kind_32 (Or.inl ⟨z, rfl, rfl⟩)
  refine v_aload_n C dX6_kind_0 rfl ?_
  refine v_get C dX6_kind_1 fl_X6_52 rfl rfl ?_
  refine v_iconst C (4) dX6_kind_4 (by decide) ?_
  refine v_icmp_eq C 31 dX6_kind_5 (by decide) (fun c1 => ?_) (fun c1 => ?_)
  · exact no (fun z => absurd ((nI_eq (b := 4) (by omega) (by omega)).mp c1) (by have := z.1; omega))
  have hn4 : n < 4 := Nat.lt_of_le_of_ne hn (fun z => c1 (by rw [z]; rfl))
  refine v_iload_n C dX6_kind_8 rfl ?_
  refine v_iconst C (1) dX6_kind_9 (by decide) ?_
  refine v_icmp_lt C 31 dX6_kind_10 (by decide) (fun c2 => ?_) (fun c2 => ?_)
  · exact no (fun z => z.2.1 c2)
  refine v_iload_n C dX6_kind_13 rfl ?_
  refine v_aload_n C dX6_kind_14 rfl ?_
  refine v_get C dX6_kind_15 fl_X6_7 rfl rfl ?_
  refine v_icmp_gt C 31 dX6_kind_18 (by decide) (fun c3 => ?_) (fun c3 => ?_)
  · exact no (fun z => absurd z.2.2.1 (Int32.not_le.mpr c3))
  have c3 : x ≤ nI W := Int32.not_lt.mp c3
  refine v_iload_n C dX6_kind_21 rfl ?_
  refine v_if_lt C 31 dX6_kind_22 (by decide) (fun c4 => ?_) (fun c4 => ?_)
  · exact no (fun z => z.2.2.2.1 c4)
  refine v_iload_n C dX6_kind_25 rfl ?_
  refine v_bipush C (6) dX6_kind_26 (by decide) ?_
  refine v_icmp_le C 33 dX6_kind_28 (by decide) (fun c5 => ?_) (fun c5 => ?_)
  · have hk : KindOk W n x y := ⟨hn4, c2, c3, c4, c5⟩
    obtain ⟨a, ha1, rfl⟩ := nI_of2 (M := nI W) (n := W) (nI_toInt (by omega)) (fun z => c2 (Int32.lt_trans z (by decide))) c3
    obtain ⟨b, hb1, rfl⟩ := nI_of2 (M := 6) (n := 6) rfl c4 c5
    have ha0 : 1 ≤ a := Nat.pos_of_ne_zero (fun z => c2 (by rw [z]; decide))
    refine v_aload_n C dX6_kind_33 rfl ?_
    refine v_get C dX6_kind_34 fl_X6_13 rfl rfl ?_
    refine v_aload_n C dX6_kind_37 rfl ?_
    refine v_get C dX6_kind_38 fl_X6_52 rfl rfl ?_
    refine v_iload_n C dX6_kind_41 rfl ?_
    refine v_iast C n dX6_kind_42 rfl rfl hn4 (by decide) ?_
    refine v_aload_n C dX6_kind_43 rfl ?_
    refine v_get C dX6_kind_44 fl_X6_17 rfl rfl ?_
    refine v_aload_n C dX6_kind_47 rfl ?_
    refine v_get C dX6_kind_48 fl_X6_52 rfl rfl ?_
    refine v_iload_n C dX6_kind_51 rfl ?_
    refine v_iast C n dX6_kind_52 rfl rfl hn4 (by decide) ?_
    refine v_aload_n C dX6_kind_53 rfl ?_
    refine v_dup C dX6_kind_54 rfl ?_
    refine v_get C dX6_kind_55 fl_X6_52 rfl rfl ?_
    refine v_iconst C (1) dX6_kind_58 (by decide) ?_
    refine v_iadd C dX6_kind_59 ?_
    refine v_put C dX6_kind_60 fp_X6_52 rfl (fun _ => rfl) (fun _ => rfl) (Nat.le_of_ble_eq_true rfl) ?_
    refine v_aload_n C dX6_kind_63 rfl ?_
    refine v_eq (h' := hM c (jJ W (n + 1) (va_up w n a) (va_up q n b)) Q D G) ?_ ?_
    · refine v_callV C dX6_kind_64 lk_X6_55 (m_change (d := 0) (c := c) (M := jJ W (n + 1) (va_up w n a) (va_up q n b)) (Q := Q) (D := D) (G := G)) hd rfl rfl rfl rfl rfl (Nat.le_of_ble_eq_true rfl) ?_
      rintro r h' ⟨rfl, rfl⟩
      refine v_aload_n C dX6_kind_67 rfl ?_
      refine v_get C dX6_kind_68 fl_X6_52 rfl rfl ?_
      refine v_iconst C (1) dX6_kind_71 (by decide) ?_
      refine v_isub C dX6_kind_72 ?_
      refine v_iret C E dX6_kind_73 (Or.inr ⟨a, b, hk, rfl, rfl, ha1, ha0, hb1, ?_, rfl⟩)
      show some (Value.int (nI (n + 1) - 1)) = _
      rw [nI_pred]
    · show hM c (nI W, nI n + 1, upd (iN w) n (nI a), upd (iN q) n (nI b)) Q D G = _
      rw [upd_iN, upd_iN, nI_1]
      rfl
  · exact no (fun z => c5 z.2.2.2.2)
set_option maxHeartbeats 4000000 in
set_option maxRecDepth 100000 in
theorem m_ask (x y : Int32) (hn : n ≤ 4) (hd : 1 ≤ d) : Con yX6_ask cX6_ask 3 (some .boolean) d [.ref 22, .int x, .int y] (hM c (jJ W n w q) Q D G) (fun r h' => (¬ AskOk n x y ∧ r = some (.int 0) ∧ h' = hM c (jJ W n w q) Q D G) ∨ ∃ a b, AskOk n x y ∧ a < n ∧ x = nI a ∧ y = nI b ∧ b ≤ 6 ∧ r = some (.int 1) ∧ h' = hM c (jJ W n w (va_up q a b)) (Q.1, Q.2.1, Q.2.2.1, 0) D (0, G.2)) := by
  refine con_of [(0, .ref 22), (1, .int x), (2, .int y)] (by decide) (fun _ => Nat.le_of_ble_eq_true rfl) (fun _ => rfl) (fun X C E => ?_)
  have no : ¬ AskOk n x y → V 3 X (hM c (jJ W n w q) Q D G) 22 [(0, .ref 22), (1, .int x), (2, .int y)] [] := by
    intro z
    refine v_iconst C (0) dX6_ask_22 (by decide) ?_
    exact v_zret C E dX6_ask_23 rfl (Or.inl ⟨z, rfl, rfl⟩)
  refine v_iload_n C dX6_ask_0 rfl ?_
  refine v_if_lt C 22 dX6_ask_1 (by decide) (fun c1 => ?_) (fun c1 => ?_)
  · exact no (fun z => z.1.1 c1)
  refine v_iload_n C dX6_ask_4 rfl ?_
  refine v_aload_n C dX6_ask_5 rfl ?_
  refine v_get C dX6_ask_6 fl_X6_52 rfl rfl ?_
  refine v_icmp_ge C 22 dX6_ask_9 (by decide) (fun c2 => ?_) (fun c2 => ?_)
  · exact no (fun z => absurd z.1.2 (Int32.not_lt.mpr c2))
  have c2 : x < nI n := Int32.not_le.mp c2
  refine v_iload_n C dX6_ask_12 rfl ?_
  refine v_if_lt C 22 dX6_ask_13 (by decide) (fun c3 => ?_) (fun c3 => ?_)
  · exact no (fun z => z.2.1 c3)
  refine v_iload_n C dX6_ask_16 rfl ?_
  refine v_bipush C (6) dX6_ask_17 (by decide) ?_
  refine v_icmp_le C 24 dX6_ask_19 (by decide) (fun c4 => ?_) (fun c4 => ?_)
  · obtain ⟨a, ha1, rfl⟩ := nI_of c1
    have han : a < n := (nI_ltI ha1 (by omega)).mp c2
    obtain ⟨b, hb1, rfl⟩ := nI_of2 (M := 6) (n := 6) rfl c3 c4
    refine v_aload_n C dX6_ask_24 rfl ?_
    refine v_get C dX6_ask_25 fl_X6_17 rfl rfl ?_
    refine v_iload_n C dX6_ask_28 rfl ?_
    refine v_iload_n C dX6_ask_29 rfl ?_
    refine v_iast C a dX6_ask_30 rfl rfl (by omega) (by decide) ?_
    refine v_aload_n C dX6_ask_31 rfl ?_
    refine v_eq (h' := hM c (jJ W n w (va_up q a b)) Q D G) ?_ (congrArg (fun z => hM c (nI W, nI n, iN w, z) Q D G) (upd_iN q a b))
    refine v_callV C dX6_ask_32 lk_X6_55 (m_change (d := 0) (c := c) (M := jJ W n w (va_up q a b)) (Q := Q) (D := D) (G := G)) hd rfl rfl rfl rfl rfl (Nat.le_of_ble_eq_true rfl) ?_
    rintro r h' ⟨rfl, rfl⟩
    refine v_iconst C (1) dX6_ask_35 (by decide) ?_
    exact v_zret C E dX6_ask_36 rfl (Or.inr ⟨a, b, ⟨⟨c1, c2⟩, c3, c4⟩, han, rfl, rfl, hb1, rfl, rfl⟩)
  · exact no (fun z => c4 z.2.2)
set_option maxHeartbeats 4000000 in
set_option maxRecDepth 100000 in
theorem m_drop (hn : n ≤ 4) (hd : 1 ≤ d) : Con yX6_drop cX6_drop 1 (some .int) d [.ref 22] (hM c (jJ W n w q) Q D G) (fun r h' => (n = 0 ∧ r = some (.int (-1)) ∧ h' = hM c (jJ W n w q) Q D G) ∨ ∃ m, n = m + 1 ∧ r = some (.int (nI m)) ∧ h' = hM c (jJ W m w q) (Q.1, Q.2.1, Q.2.2.1, 0) D (0, G.2)) := by
  refine con_of [(0, .ref 22)] (by decide) (fun _ => Nat.le_of_ble_eq_true rfl) (fun _ => rfl) (fun X C E => ?_)
  refine v_aload_n C dX6_drop_0 rfl ?_
  refine v_get C dX6_drop_1 fl_X6_52 rfl rfl ?_
  by_cases e : n = 0
  · subst e
    refine v_if_ne C 9 dX6_drop_4 (by decide) (fun z => absurd rfl z) (fun _ => ?_)
    refine v_iconst C (-1) dX6_drop_7 (by decide) ?_
    exact v_iret C E dX6_drop_8 (Or.inl ⟨rfl, rfl, rfl⟩)
  · obtain ⟨m, rfl⟩ : ∃ m, n = m + 1 := ⟨n - 1, by omega⟩
    refine v_if_ne C 9 dX6_drop_4 (by decide) (fun _ => ?_) (fun z => absurd z (nI_ne0 (by omega) (by omega)))
    refine v_aload_n C dX6_drop_9 rfl ?_
    refine v_dup C dX6_drop_10 rfl ?_
    refine v_get C dX6_drop_11 fl_X6_52 rfl rfl ?_
    refine v_iconst C (1) dX6_drop_14 (by decide) ?_
    refine v_isub C dX6_drop_15 ?_
    refine v_put C dX6_drop_16 fp_X6_52 rfl (fun _ => rfl) (fun _ => rfl) (Nat.le_of_ble_eq_true rfl) ?_
    refine v_aload_n C dX6_drop_19 rfl ?_
    refine v_eq (h' := hM c (jJ W m w q) Q D G) ?_ (congrArg (fun z => hM c (nI W, z, iN w, iN q) Q D G) (nI_pred m))
    refine v_callV C dX6_drop_20 lk_X6_55 (m_change (d := 0) (c := c) (M := jJ W m w q) (Q := Q) (D := D) (G := G)) hd rfl rfl rfl rfl rfl (Nat.le_of_ble_eq_true rfl) ?_
    rintro r h' ⟨rfl, rfl⟩
    refine v_aload_n C dX6_drop_23 rfl ?_
    refine v_get C dX6_drop_24 fl_X6_52 rfl rfl ?_
    exact v_iret C E dX6_drop_27 (Or.inr ⟨m, rfl, rfl, rfl⟩)
set_option maxHeartbeats 4000000 in
set_option maxRecDepth 100000 in
theorem m_of (x : Int32) : Con yX6_of cX6_of 2 (some .int) d [.ref 22, .int x] (hM c (jJ W n w q) Q D G) (fun r h' => r = some (.int (if x = 0 then nI W else if x = 1 then nI n else -1)) ∧ h' = hM c (jJ W n w q) Q D G) := by
  refine con_of [(0, .ref 22), (1, .int x)] (by decide) (fun _ => Nat.le_of_ble_eq_true rfl) (fun _ => rfl) (fun X C E => ?_)
  refine v_iload_n C dX6_of_0 rfl ?_
  refine v_if_ne C 11 dX6_of_1 (by decide) (fun c1 => ?_) (fun c1 => ?_)
  · refine v_iload_n C dX6_of_11 rfl ?_
    refine v_iconst C (1) dX6_of_12 (by decide) ?_
    refine v_icmp_ne C 23 dX6_of_13 (by decide) (fun c2 => ?_) (fun c2 => ?_)
    · refine v_iconst C (-1) dX6_of_23 (by decide) ?_
      exact v_iret C E dX6_of_24 ⟨by rw [if_neg c1, if_neg c2], rfl⟩
    · refine v_aload_n C dX6_of_16 rfl ?_
      refine v_get C dX6_of_17 fl_X6_52 rfl rfl ?_
      refine v_goto C 24 dX6_of_20 (by decide) ?_
      exact v_iret C E dX6_of_24 ⟨by rw [if_neg c1, if_pos c2]; rfl, rfl⟩
  · refine v_aload_n C dX6_of_4 rfl ?_
    refine v_get C dX6_of_5 fl_X6_7 rfl rfl ?_
    refine v_goto C 24 dX6_of_8 (by decide) ?_
    exact v_iret C E dX6_of_24 ⟨by rw [if_pos c1]; rfl, rfl⟩
set_option maxHeartbeats 4000000 in
set_option maxRecDepth 100000 in
theorem m_ofKind (x y : Int32) (hn : n ≤ 4) : Con yX6_ofKind cX6_ofKind 3 (some .int) d [.ref 22, .int x, .int y] (hM c (jJ W n w q) Q D G) (fun r h' => h' = hM c (jJ W n w q) Q D G ∧ ((¬ (¬ x < 0 ∧ x < nI n) ∧ r = some (.int (-1))) ∨ ∃ a, a < n ∧ x = nI a ∧ r = some (.int (if y = 0 then nI (w a) else if y = 1 then nI (q a) else -1)))) := by
  refine con_of [(0, .ref 22), (1, .int x), (2, .int y)] (by decide) (fun _ => Nat.le_of_ble_eq_true rfl) (fun _ => rfl) (fun X C E => ?_)
  have no : ¬ (¬ x < 0 ∧ x < nI n) → V 3 X (hM c (jJ W n w q) Q D G) 12 [(0, .ref 22), (1, .int x), (2, .int y)] [] := by
    intro z
    refine v_iconst C (-1) dX6_ofKind_12 (by decide) ?_
    exact v_iret C E dX6_ofKind_13 ⟨rfl, Or.inl ⟨z, rfl⟩⟩
  refine v_iload_n C dX6_ofKind_0 rfl ?_
  refine v_if_lt C 12 dX6_ofKind_1 (by decide) (fun c1 => ?_) (fun c1 => ?_)
  · exact no (fun z => z.1 c1)
  refine v_iload_n C dX6_ofKind_4 rfl ?_
  refine v_aload_n C dX6_ofKind_5 rfl ?_
  refine v_get C dX6_ofKind_6 fl_X6_52 rfl rfl ?_
  refine v_icmp_lt C 14 dX6_ofKind_9 (by decide) (fun c2 => ?_) (fun c2 => ?_)
  · obtain ⟨a, ha1, rfl⟩ := nI_of c1
    have han : a < n := (nI_ltI ha1 (by omega)).mp c2
    refine v_iload_n C dX6_ofKind_14 rfl ?_
    refine v_if_ne C 27 dX6_ofKind_15 (by decide) (fun c3 => ?_) (fun c3 => ?_)
    · refine v_iload_n C dX6_ofKind_27 rfl ?_
      refine v_iconst C (1) dX6_ofKind_28 (by decide) ?_
      refine v_icmp_ne C 41 dX6_ofKind_29 (by decide) (fun c4 => ?_) (fun c4 => ?_)
      · refine v_iconst C (-1) dX6_ofKind_41 (by decide) ?_
        exact v_iret C E dX6_ofKind_42 ⟨rfl, Or.inr ⟨a, han, rfl, by rw [if_neg c3, if_neg c4]⟩⟩
      · refine v_aload_n C dX6_ofKind_32 rfl ?_
        refine v_get C dX6_ofKind_33 fl_X6_17 rfl rfl ?_
        refine v_iload_n C dX6_ofKind_36 rfl ?_
        refine v_iald C a dX6_ofKind_37 rfl rfl (by omega) (by decide) ?_
        refine v_goto C 42 dX6_ofKind_38 (by decide) ?_
        exact v_iret C E dX6_ofKind_42 ⟨rfl, Or.inr ⟨a, han, rfl, by rw [if_neg c3, if_pos c4]; rfl⟩⟩
    · refine v_aload_n C dX6_ofKind_18 rfl ?_
      refine v_get C dX6_ofKind_19 fl_X6_13 rfl rfl ?_
      refine v_iload_n C dX6_ofKind_22 rfl ?_
      refine v_iald C a dX6_ofKind_23 rfl rfl (by omega) (by decide) ?_
      refine v_goto C 42 dX6_ofKind_24 (by decide) ?_
      exact v_iret C E dX6_ofKind_42 ⟨rfl, Or.inr ⟨a, han, rfl, by rw [if_pos c3]; rfl⟩⟩
  · exact no (fun z => c2 z.2)
set_option maxHeartbeats 4000000 in
set_option maxRecDepth 100000 in
theorem m_demandOf (k : Nat) (hk : k < 4) (hn : n ≤ 4) : Con yX6_demandOf cX6_demandOf 2 (some .int) d [.ref 22, .int (nI k)] (hM c (jJ W n w q) Q D G) (fun r h' => r = some (.int (nI (qn n q k))) ∧ h' = hM c (jJ W n w q) Q D G) := by
  refine con_of [(0, .ref 22), (1, .int (nI k))] (by decide) (fun _ => Nat.le_of_ble_eq_true rfl) (fun _ => rfl) (fun X C E => ?_)
  refine v_iload_n C dX6_demandOf_0 rfl ?_
  refine v_aload_n C dX6_demandOf_1 rfl ?_
  refine v_get C dX6_demandOf_2 fl_X6_52 rfl rfl ?_
  by_cases e : k < n
  · refine v_icmp_ge C 17 dX6_demandOf_5 (by decide) (fun q => absurd q (nI_ge e (by omega))) (fun _ => ?_)
    refine v_aload_n C dX6_demandOf_8 rfl ?_
    refine v_get C dX6_demandOf_9 fl_X6_17 rfl rfl ?_
    refine v_iload_n C dX6_demandOf_12 rfl ?_
    refine v_iald C k dX6_demandOf_13 rfl rfl hk (by decide) ?_
    refine v_goto C 18 dX6_demandOf_14 (by decide) ?_
    exact v_iret C E dX6_demandOf_18 ⟨by unfold qn; rw [if_pos e]; rfl, rfl⟩
  · refine v_icmp_ge C 17 dX6_demandOf_5 (by decide) (fun _ => ?_) (fun q => absurd (nI_le (Nat.not_lt.mp e) (by omega)) q)
    refine v_iconst C (0) dX6_demandOf_17 (by decide) ?_
    exact v_iret C E dX6_demandOf_18 ⟨by unfold qn; rw [if_neg e]; rfl, rfl⟩
set_option maxHeartbeats 4000000 in
set_option maxRecDepth 100000 in
theorem m_widthOf (k : Nat) (hk : k < 4) (hn : n ≤ 4) : Con yX6_widthOf cX6_widthOf 2 (some .int) d [.ref 22, .int (nI k)] (hM c (jJ W n w q) Q D G) (fun r h' => r = some (.int (nI (qn n w k))) ∧ h' = hM c (jJ W n w q) Q D G) := by
  refine con_of [(0, .ref 22), (1, .int (nI k))] (by decide) (fun _ => Nat.le_of_ble_eq_true rfl) (fun _ => rfl) (fun X C E => ?_)
  refine v_iload_n C dX6_widthOf_0 rfl ?_
  refine v_aload_n C dX6_widthOf_1 rfl ?_
  refine v_get C dX6_widthOf_2 fl_X6_52 rfl rfl ?_
  by_cases e : k < n
  · refine v_icmp_ge C 17 dX6_widthOf_5 (by decide) (fun q => absurd q (nI_ge e (by omega))) (fun _ => ?_)
    refine v_aload_n C dX6_widthOf_8 rfl ?_
    refine v_get C dX6_widthOf_9 fl_X6_13 rfl rfl ?_
    refine v_iload_n C dX6_widthOf_12 rfl ?_
    refine v_iald C k dX6_widthOf_13 rfl rfl hk (by decide) ?_
    refine v_goto C 18 dX6_widthOf_14 (by decide) ?_
    exact v_iret C E dX6_widthOf_18 ⟨by unfold qn; rw [if_pos e]; rfl, rfl⟩
  · refine v_icmp_ge C 17 dX6_widthOf_5 (by decide) (fun _ => ?_) (fun q => absurd (nI_le (Nat.not_lt.mp e) (by omega)) q)
    refine v_iconst C (0) dX6_widthOf_17 (by decide) ?_
    exact v_iret C E dX6_widthOf_18 ⟨by unfold qn; rw [if_neg e]; rfl, rfl⟩
end MODEL
