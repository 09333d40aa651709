/-! RollPlanner's own methods, but for price and the floor -/
def CA (W n : Nat) (w q : Nat → Nat) (h tl : List PC) : Prop := ∃ (l : Nat → Nat) (sd : Int32) (cu re pa : Nat → Nat) (N : SN) (F : SF), Ok W n w l ∧ Cnt n q ∧ (sd = 0 ∨ (sd = 1 ∧ PlanOK W n w q (fr W l q) cu)) ∧ (N.2.1 0 = 0 ∧ ∀ k, k < 4 → w k ≤ 60) ∧ h = hC (jJ W n w q) (iN l) (pP sd cu re pa) N F tl
/-- the fewest rolls -/
def IsF (W : Nat) (w q : Nat → Nat) (m : Nat) : Prop := Pk W w m q ∧ ∀ m', Pk W w m' q → m ≤ m'
theorem lo_w {W : Nat} {w w' l l' : Nat → Nat} {c : Nat} (hl : ∀ j, j < c → l j = l' j) (h : ∀ k, 0 < c / st7 k % 7 → w k = w' k) : ∀ m, lo W w l c m = lo W w' l' c m
  | 0 => rfl
  | k + 1 => by
    have ih := lo_w hl h (W := W) k
    unfold lo
    rw [ih]
    by_cases e : 0 < c / st7 k % 7
    · have h1 := dig_le e
      have h2 := st7_pos k
      rw [if_pos e, if_pos e, h k e, hl (c - st7 k) (by omega)]
    · rw [if_neg e, if_neg e]
theorem st7_mono : ∀ k m, k ≤ m → st7 k ≤ st7 m := by
  intro k m h
  have : ∀ m k, k ≤ m → m ≤ 4 → st7 k ≤ st7 m := by
    intro m k h h4
    match m, k, h, h4 with
    | 0, 0, _, _ => decide
    | 1, 0, _, _ => decide
    | 1, 1, _, _ => decide
    | 2, 0, _, _ => decide
    | 2, 1, _, _ => decide
    | 2, 2, _, _ => decide
    | 3, 0, _, _ => decide
    | 3, 1, _, _ => decide
    | 3, 2, _, _ => decide
    | 3, 3, _, _ => decide
    | 4, 0, _, _ => decide
    | 4, 1, _, _ => decide
    | 4, 2, _, _ => decide
    | 4, 3, _, _ => decide
    | 4, 4, _, _ => decide
  by_cases e : m ≤ 4
  · exact this m k h e
  · have : st7 m = 2401 := by
      obtain ⟨j, rfl⟩ : ∃ j, m = j + 4 := ⟨m - 4, by omega⟩
      rfl
    rw [this]
    exact st7_le k
theorem lo_top {W : Nat} {w l : Nat → Nat} {c n : Nat} (hc : c < st7 n) : ∀ m, lo W w l c (n + m) = lo W w l c n
  | 0 => rfl
  | m + 1 => by
    have h1 := st7_mono n (n + m) (by omega)
    exact (show lo W w l c (n + m + 1) = lo W w l c (n + m) from if_neg (by rw [Nat.div_eq_of_lt (by omega)]; decide)).trans (lo_top hc m)
theorem lo_4 {W : Nat} {w l : Nat → Nat} {c n : Nat} (hn : n ≤ 4) (hc : c < st7 n) : lo W w l c 4 = lo W w l c n := by
  have := lo_top (W := W) (w := w) (l := l) hc (4 - n)
  rw [show n + (4 - n) = 4 by omega] at this
  exact this
theorem isF_fr {W n : Nat} {w l q : Nat → Nat} (ok : Ok W n w l) (hq : Cnt n q) : IsF W w q (fr W l q) := ⟨(fr_iff ok hq).mpr (Nat.le_refl _), fun _ h => (fr_iff ok hq).mp h⟩
theorem planOK_0 {W n : Nat} {w q : Nat → Nat} {cu : Nat → Nat} : PlanOK W n w q 0 cu := ⟨fun _ => q, fun _ _ => rfl, fun i hi => absurd hi (Nat.not_lt_zero i)⟩
section API
variable {W n : Nat} {w q : Nat → Nat} {h tl : List PC} {d : Nat}
set_option maxHeartbeats 4000000 in
set_option maxRecDepth 100000 in
theorem c_isDemand (x : Int32) : Con yX5_isDemand cX5_isDemand 1 (some .boolean) d [.int x] h (fun r h' => r = some (.int (if ¬ x < 0 ∧ x ≤ 6 then 1 else 0)) ∧ h' = h) := by
  refine con_of [(0, .int x)] (by decide) (fun _ => Nat.le_of_ble_eq_true rfl) (fun _ => rfl) (fun X C E => ?_)
  refine v_iload_n C dX5_isDemand_0 rfl ?_
  refine v_if_lt C 14 dX5_isDemand_1 (by decide) (fun c1 => ?_) (fun c1 => ?_)
  · refine v_iconst C (0) dX5_isDemand_14 (by decide) ?_
    exact v_zret C E dX5_isDemand_15 rfl ⟨by rw [if_neg (fun z => z.1 c1)], rfl⟩
  · refine v_iload_n C dX5_isDemand_4 rfl ?_
    refine v_bipush C (6) dX5_isDemand_5 (by decide) ?_
    refine v_icmp_gt C 14 dX5_isDemand_7 (by decide) (fun c2 => ?_) (fun c2 => ?_)
    · refine v_iconst C (0) dX5_isDemand_14 (by decide) ?_
      exact v_zret C E dX5_isDemand_15 rfl ⟨by rw [if_neg (fun z => absurd z.2 (Int32.not_le.mpr c2))], rfl⟩
    · refine v_iconst C (1) dX5_isDemand_10 (by decide) ?_
      refine v_goto C 15 dX5_isDemand_11 (by decide) ?_
      exact v_zret C E dX5_isDemand_15 rfl ⟨by rw [if_pos ⟨c1, Int32.not_lt.mp c2⟩], rfl⟩
set_option maxHeartbeats 4000000 in
set_option maxRecDepth 100000 in
theorem c_isPrice (x : Int32) : Con yX5_isPrice cX5_isPrice 1 (some .boolean) d [.int x] h (fun r h' => r = some (.int (if ¬ x < 0 ∧ x ≤ 1000000 then 1 else 0)) ∧ h' = h) := by
  refine con_of [(0, .int x)] (by decide) (fun _ => Nat.le_of_ble_eq_true rfl) (fun _ => rfl) (fun X C E => ?_)
  refine v_iload_n C dX5_isPrice_0 rfl ?_
  refine v_if_lt C 14 dX5_isPrice_1 (by decide) (fun c1 => ?_) (fun c1 => ?_)
  · refine v_iconst C (0) dX5_isPrice_14 (by decide) ?_
    exact v_zret C E dX5_isPrice_15 rfl ⟨by rw [if_neg (fun z => z.1 c1)], rfl⟩
  · refine v_iload_n C dX5_isPrice_4 rfl ?_
    refine v_ldc C (1000000) dX5_isPrice_5 (by decide +kernel) ?_
    refine v_icmp_gt C 14 dX5_isPrice_7 (by decide) (fun c2 => ?_) (fun c2 => ?_)
    · refine v_iconst C (0) dX5_isPrice_14 (by decide) ?_
      exact v_zret C E dX5_isPrice_15 rfl ⟨by rw [if_neg (fun z => absurd z.2 (Int32.not_le.mpr c2))], rfl⟩
    · refine v_iconst C (1) dX5_isPrice_10 (by decide) ?_
      refine v_goto C 15 dX5_isPrice_11 (by decide) ?_
      exact v_zret C E dX5_isPrice_15 rfl ⟨by rw [if_pos ⟨c1, Int32.not_lt.mp c2⟩], rfl⟩
set_option maxHeartbeats 4000000 in
set_option maxRecDepth 100000 in
theorem c_begin (x : Int32) (ha : CA W n w q h tl) (hd : 2 ≤ d) : Con yX5_begin cX5_begin 2 (some .boolean) d [.ref 0, .int x] h (fun r h' => (¬ (¬ x < 1 ∧ x ≤ 60) ∧ r = some (.int 0) ∧ h' = h) ∨ ∃ V1, x = nI V1 ∧ 1 ≤ V1 ∧ V1 ≤ 60 ∧ r = some (.int 1) ∧ ∃ q', CA V1 0 w q' h' tl) := by
  obtain ⟨l, sd, cu, re, pa, N, F, ok, hq, hs, hN, rfl⟩ := ha
  refine con_of [(0, .ref 0), (1, .int x)] (by decide) (fun _ => Nat.le_of_ble_eq_true rfl) (fun _ => rfl) (fun X C E => ?_)
  refine v_iload_n C dX5_begin_0 rfl ?_
  refine v_iconst C (1) dX5_begin_1 (by decide) ?_
  refine v_icmp_lt C 11 dX5_begin_2 (by decide) (fun c1 => ?_) (fun c1 => ?_)
  · refine v_iconst C (0) dX5_begin_11 (by decide) ?_
    exact v_zret C E dX5_begin_12 rfl (Or.inl ⟨fun z => z.1 c1, rfl, rfl⟩)
  · refine v_iload_n C dX5_begin_5 rfl ?_
    refine v_bipush C (60) dX5_begin_6 (by decide) ?_
    refine v_icmp_le C 13 dX5_begin_8 (by decide) (fun c2 => ?_) (fun c2 => ?_)
    · obtain ⟨V1, h1, rfl⟩ := nI_of2 (M := 60) (n := 60) rfl (fun z => c1 (Int32.lt_trans z (by decide))) c2
      have h0 : 1 ≤ V1 := Nat.pos_of_ne_zero (fun z => c1 (by rw [z]; decide))
      refine v_aload_n C dX5_begin_13 rfl ?_
      refine v_get C dX5_begin_14 fl_X5_10 rfl rfl ?_
      refine v_iload_n C dX5_begin_17 rfl ?_
      refine v_callV C dX5_begin_18 lk_X5_50 (c_clear (d := 1) V1 (by decide)) (by omega) rfl rfl rfl rfl rfl (Nat.le_of_ble_eq_true rfl) ?_
      rintro r h' ⟨rfl, f, hf, rfl⟩
      obtain ⟨q', rfl, hq'⟩ := iN_of f 4 (fun _ => 0) (fun i hi => hf i hi)
      refine v_aload_n C dX5_begin_21 rfl ?_
      refine v_get C dX5_begin_22 fl_X5_30 rfl rfl ?_
      refine v_callV C dX5_begin_25 lk_X5_54 (c_forget (d := 0)) (by omega) rfl rfl rfl rfl rfl (Nat.le_of_ble_eq_true rfl) ?_
      rintro r h' ⟨rfl, rfl⟩
      refine v_iconst C (1) dX5_begin_28 (by decide) ?_
      refine v_zret C E dX5_begin_29 rfl (Or.inr ⟨V1, rfl, h0, h1, rfl, q', l, 0, cu, re, pa, N, F, ⟨by omega, by omega, h1, fun k hk => absurd hk (Nat.not_lt_zero k), ok.2.2.2.2.1, fun c a b => absurd b (by show ¬ c < 1; omega), ok.2.2.2.2.2.2⟩, ⟨fun k hk => by rw [hq' k hk]; exact Nat.zero_le _, fun k _ hk => hq' k hk⟩, Or.inl rfl, hN, rfl⟩)
    · refine v_iconst C (0) dX5_begin_11 (by decide) ?_
      exact v_zret C E dX5_begin_12 rfl (Or.inl ⟨fun z => c2 z.2, rfl, rfl⟩)
/-- what kind is asked to take -/
def KindOk (W n : Nat) (x y : Int32) : Prop := n < 4 ∧ ¬ x < 1 ∧ x ≤ nI W ∧ ¬ y < 0 ∧ y ≤ 6
set_option maxHeartbeats 4000000 in
set_option maxRecDepth 100000 in
theorem c_kind (x y : Int32) (ha : CA W n w q h tl) (hd : 3 ≤ d) : Con yX5_kind cX5_kind 4 (some .int) d [.ref 0, .int x, .int y] h (fun r h' => (¬ KindOk W n x y ∧ r = some (.int (-1)) ∧ h' = h) ∨ ∃ a b, KindOk W n x y ∧ x = nI a ∧ y = nI b ∧ r = some (.int (nI n)) ∧ CA W (n + 1) (va_up w n a) (va_up q n b) h' tl) := by
  obtain ⟨l, sd, cu, re, pa, N, F, ok, hq, hs, hN, rfl⟩ := ha
  obtain ⟨hn, hW, hW2, hw, hl⟩ := id ok
  refine con_of [(0, .ref 0), (1, .int x), (2, .int y)] (by decide) (fun _ => Nat.le_of_ble_eq_true rfl) (fun _ => rfl) (fun X C E => ?_)
  have no : ¬ KindOk W n x y → V 4 X (hC (jJ W n w q) (iN l) (pP sd cu re pa) N F tl) 34 [(0, .ref 0), (1, .int x), (2, .int y)] [] := by
    intro z
    refine v_iconst C (-1) dX5_kind_34 (by decide) ?_
    exact v_iret C E dX5_kind_35 (Or.inl ⟨z, rfl, rfl⟩)
  refine v_aload_n C dX5_kind_0 rfl ?_
  refine v_get C dX5_kind_1 fl_X5_10 rfl rfl ?_
  refine v_get C dX5_kind_4 fl_X5_57 rfl rfl ?_
  refine v_iconst C (4) dX5_kind_7 (by decide) ?_
  refine v_icmp_ge C 34 dX5_kind_8 (by decide) (fun c1 => ?_) (fun c1 => ?_)
  · exact no (fun z => absurd ((nI_leI (a := 4) (b := n) (by omega) (by omega)).mp c1) (by have := z.1; omega))
  have hn4 : n < 4 := Nat.lt_of_not_le (fun z => c1 (nI_le z (by omega)))
  refine v_iload_n C dX5_kind_11 rfl ?_
  refine v_iconst C (1) dX5_kind_12 (by decide) ?_
  refine v_icmp_lt C 34 dX5_kind_13 (by decide) (fun c2 => ?_) (fun c2 => ?_)
  · exact no (fun z => z.2.1 c2)
  refine v_iload_n C dX5_kind_16 rfl ?_
  refine v_aload_n C dX5_kind_17 rfl ?_
  refine v_get C dX5_kind_18 fl_X5_10 rfl rfl ?_
  refine v_get C dX5_kind_21 fl_X5_61 rfl rfl ?_
  refine v_icmp_gt C 34 dX5_kind_24 (by decide) (fun c3 => ?_) (fun c3 => ?_)
  · exact no (fun z => absurd z.2.2.1 (Int32.not_le.mpr c3))
  have c3 : x ≤ nI W := Int32.not_lt.mp c3
  refine v_iload_n C dX5_kind_27 rfl ?_
  refine v_callS C dX5_kind_28 lk_X5_64 (c_isDemand (d := 0) y) (by omega) rfl rfl (Nat.le_of_ble_eq_true rfl) ?_
  rintro r h' ⟨rfl, rfl⟩
  by_cases c4 : ¬ y < 0 ∧ y ≤ 6
  · rw [if_pos c4]
    refine v_if_ne C 36 dX5_kind_31 (by decide) (fun _ => ?_) (fun z => absurd z (by decide))
    have hk : KindOk W n x y := ⟨hn4, c2, c3, c4.1, c4.2⟩
    obtain ⟨a, ha1, rfl⟩ := nI_of2 (M := nI W) (n := W) (nI_toInt (by omega)) (fun z => c2 (Int32.lt_trans z (by decide))) c3
    obtain ⟨b, hb1, rfl⟩ := nI_of2 (M := 6) (n := 6) rfl c4.1 c4.2
    have ha0 : 1 ≤ a := Nat.pos_of_ne_zero (fun z => c2 (by rw [z]; decide))
    have hw' : ∀ k, k ≤ n → va_up w n a k ≤ 60 := fun k hk => by
      unfold va_up
      split
      · omega
      · exact Nat.le_trans (hw k (by omega)).2 hW2
    refine v_aload_n C dX5_kind_36 rfl ?_
    refine v_get C dX5_kind_37 fl_X5_10 rfl rfl ?_
    refine v_iload_n C dX5_kind_40 rfl ?_
    refine v_iload_n C dX5_kind_41 rfl ?_
    refine v_callV C dX5_kind_42 lk_X5_68 (c_add (d := 0) a b hn4) (by omega) rfl rfl rfl rfl rfl (Nat.le_of_ble_eq_true rfl) ?_
    rintro r h' ⟨rfl, rfl⟩
    refine v_istore_n C dX5_kind_45 (by decide) ?_
    refine v_aload_n C dX5_kind_46 rfl ?_
    refine v_get C dX5_kind_47 fl_X5_21 rfl rfl ?_
    refine v_iload_n C dX5_kind_50 rfl ?_
    refine v_callV C dX5_kind_51 lk_X5_72 (c_extendTo (d := 2) n hn4 hW hW2 hw' hl.2.2 (by decide)) (by omega) rfl rfl rfl rfl rfl (Nat.le_of_ble_eq_true rfl) ?_
    rintro r h' ⟨rfl, l', e1, e2, e3, rfl⟩
    refine v_aload_n C dX5_kind_54 rfl ?_
    refine v_get C dX5_kind_55 fl_X5_30 rfl rfl ?_
    refine v_callV C dX5_kind_58 lk_X5_54 (c_forget (d := 0)) (by omega) rfl rfl rfl rfl rfl (Nat.le_of_ble_eq_true rfl) ?_
    rintro r h' ⟨rfl, rfl⟩
    refine v_iload_n C dX5_kind_61 rfl ?_
    refine v_iret C E dX5_kind_62 (Or.inr ⟨a, b, hk, rfl, rfl, rfl, l', 0, cu, re, pa, N, F, ⟨by omega, hW, hW2, fun k hk => ?_, ?_, fun c h1 h2 => ?_, e1⟩, ⟨fun k hk => ?_, fun k h1 h2 => ?_⟩, Or.inl rfl, ⟨hN.1, fun k hk => ?_⟩, rfl⟩)
    · unfold va_up
      split
      · omega
      · exact hw k (by omega)
    · rw [e2 0 (st7_pos n)]; exact hl.1
    · by_cases ec : c < st7 n
      · rw [e2 c ec, hl.2.1 c h1 ec]
        refine lo_w (fun j hj => (e2 j (by omega)).symm) (fun k hk => ?_) 4
        unfold va_up
        rw [if_neg (fun z => by
          have := dig_le hk
          rw [z] at this
          omega)]
      · rw [lo_4 (by omega) h2]
        exact e3 c (by omega) h2
    · unfold va_up
      split
      · omega
      · exact hq.1 k hk
    · unfold va_up
      rw [if_neg (by omega)]
      exact hq.2 k (by omega) h2
    · unfold va_up
      split
      · omega
      · exact hN.2 k hk
  · rw [if_neg c4]
    refine v_if_ne C 36 dX5_kind_31 (by decide) (fun z => absurd rfl z) (fun _ => ?_)
    exact no (fun z => c4 z.2.2.2)
def AskOk (n : Nat) (x y : Int32) : Prop := (¬ x < 0 ∧ x < nI n) ∧ ¬ y < 0 ∧ y ≤ 6
set_option maxHeartbeats 4000000 in
set_option maxRecDepth 100000 in
theorem c_ask (x y : Int32) (ha : CA W n w q h tl) (hd : 2 ≤ d) : Con yX5_ask cX5_ask 3 (some .boolean) d [.ref 0, .int x, .int y] h (fun r h' => (¬ AskOk n x y ∧ r = some (.int 0) ∧ h' = h) ∨ ∃ a b, AskOk n x y ∧ a < n ∧ x = nI a ∧ y = nI b ∧ r = some (.int 1) ∧ CA W n w (va_up q a b) h' tl) := by
  obtain ⟨l, sd, cu, re, pa, N, F, ok, hq, hs, hN, rfl⟩ := ha
  have hn := ok.1
  refine con_of [(0, .ref 0), (1, .int x), (2, .int y)] (by decide) (fun _ => Nat.le_of_ble_eq_true rfl) (fun _ => rfl) (fun X C E => ?_)
  have no : ¬ AskOk n x y → V 3 X (hC (jJ W n w q) (iN l) (pP sd cu re pa) N F tl) 18 [(0, .ref 0), (1, .int x), (2, .int y)] [] := by
    intro z
    refine v_iconst C (0) dX5_ask_18 (by decide) ?_
    exact v_zret C E dX5_ask_19 rfl (Or.inl ⟨z, rfl, rfl⟩)
  refine v_aload_n C dX5_ask_0 rfl ?_
  refine v_get C dX5_ask_1 fl_X5_10 rfl rfl ?_
  refine v_iload_n C dX5_ask_4 rfl ?_
  refine v_callV C dX5_ask_5 lk_X5_75 (c_has (d := 0) x) (by omega) rfl rfl rfl rfl rfl (Nat.le_of_ble_eq_true rfl) ?_
  rintro r h' ⟨rfl, rfl⟩
  by_cases c1 : ¬ x < 0 ∧ x < nI n
  · rw [if_pos c1]
    refine v_if_eq C 18 dX5_ask_8 (by decide) (fun z => absurd z (by decide)) (fun _ => ?_)
    refine v_iload_n C dX5_ask_11 rfl ?_
    refine v_callS C dX5_ask_12 lk_X5_64 (c_isDemand (d := 0) y) (by omega) rfl rfl (Nat.le_of_ble_eq_true rfl) ?_
    rintro r h' ⟨rfl, rfl⟩
    by_cases c4 : ¬ y < 0 ∧ y ≤ 6
    · rw [if_pos c4]
      refine v_if_ne C 20 dX5_ask_15 (by decide) (fun _ => ?_) (fun z => absurd z (by decide))
      obtain ⟨a, ha1, rfl⟩ := nI_of c1.1
      have han : a < n := (nI_ltI ha1 (by omega)).mp c1.2
      obtain ⟨b, hb1, rfl⟩ := nI_of2 (M := 6) (n := 6) rfl c4.1 c4.2
      refine v_aload_n C dX5_ask_20 rfl ?_
      refine v_get C dX5_ask_21 fl_X5_10 rfl rfl ?_
      refine v_get C dX5_ask_24 fl_X5_78 rfl rfl ?_
      refine v_iload_n C dX5_ask_27 rfl ?_
      refine v_iload_n C dX5_ask_28 rfl ?_
      refine v_iast C a dX5_ask_29 rfl rfl (by omega) (by decide) ?_
      refine v_eq (h' := hC (jJ W n w (va_up q a b)) (iN l) (pP sd cu re pa) N F tl) ?_ (congrArg (fun z => hC (nI W, nI n, iN w, z) (iN l) (pP sd cu re pa) N F tl) (upd_iN q a b))
      refine v_aload_n C dX5_ask_30 rfl ?_
      refine v_get C dX5_ask_31 fl_X5_30 rfl rfl ?_
      refine v_callV C dX5_ask_34 lk_X5_54 (c_forget (d := 0)) (by omega) rfl rfl rfl rfl rfl (Nat.le_of_ble_eq_true rfl) ?_
      rintro r h' ⟨rfl, rfl⟩
      refine v_iconst C (1) dX5_ask_37 (by decide) ?_
      refine v_zret C E dX5_ask_38 rfl (Or.inr ⟨a, b, ⟨c1, c4⟩, han, rfl, rfl, rfl, l, 0, cu, re, pa, N, F, ok, ⟨fun k hk => ?_, fun k h1 h2 => ?_⟩, Or.inl rfl, hN, rfl⟩)
      · unfold va_up
        split
        · omega
        · exact hq.1 k hk
      · unfold va_up
        rw [if_neg (by omega)]
        exact hq.2 k h1 h2
    · rw [if_neg c4]
      refine v_if_ne C 20 dX5_ask_15 (by decide) (fun z => absurd rfl z) (fun _ => ?_)
      exact no (fun z => c4 z.2)
  · rw [if_neg c1]
    refine v_if_eq C 18 dX5_ask_8 (by decide) (fun _ => ?_) (fun z => absurd rfl z)
    exact no (fun z => c1 z.1)
set_option maxHeartbeats 4000000 in
set_option maxRecDepth 100000 in
theorem c_drop (ha : CA W n w q h tl) (hd : 2 ≤ d) : Con yX5_drop cX5_drop 1 (some .int) d [.ref 0] h (fun r h' => (n = 0 ∧ r = some (.int (-1)) ∧ h' = h) ∨ ∃ m, n = m + 1 ∧ r = some (.int (nI m)) ∧ CA W m w (va_up q m 0) h' tl) := by
  obtain ⟨l, sd, cu, re, pa, N, F, ok, hq, hs, hN, rfl⟩ := ha
  obtain ⟨hn, hW, hW2, hw, hl⟩ := id ok
  refine con_of [(0, .ref 0)] (by decide) (fun _ => Nat.le_of_ble_eq_true rfl) (fun _ => rfl) (fun X C E => ?_)
  refine v_aload_n C dX5_drop_0 rfl ?_
  refine v_get C dX5_drop_1 fl_X5_10 rfl rfl ?_
  refine v_get C dX5_drop_4 fl_X5_57 rfl rfl ?_
  by_cases e : n = 0
  · subst e
    refine v_if_ne C 12 dX5_drop_7 (by decide) (fun z => absurd rfl z) (fun _ => ?_)
    refine v_iconst C (-1) dX5_drop_10 (by decide) ?_
    exact v_iret C E dX5_drop_11 (Or.inl ⟨rfl, rfl, rfl⟩)
  · obtain ⟨m, rfl⟩ : ∃ m, n = m + 1 := ⟨n - 1, by omega⟩
    refine v_if_ne C 12 dX5_drop_7 (by decide) (fun _ => ?_) (fun z => absurd z (nI_ne0 (by omega) (by omega)))
    refine v_aload_n C dX5_drop_12 rfl ?_
    refine v_get C dX5_drop_13 fl_X5_10 rfl rfl ?_
    refine v_callV C dX5_drop_16 lk_X5_82 (c_removeLast (d := 0) (n := m) (by omega)) (by omega) rfl rfl rfl rfl rfl (Nat.le_of_ble_eq_true rfl) ?_
    rintro r h' ⟨rfl, rfl⟩
    refine v_aload_n C dX5_drop_19 rfl ?_
    refine v_get C dX5_drop_20 fl_X5_30 rfl rfl ?_
    refine v_callV C dX5_drop_23 lk_X5_54 (c_forget (d := 0)) (by omega) rfl rfl rfl rfl rfl (Nat.le_of_ble_eq_true rfl) ?_
    rintro r h' ⟨rfl, rfl⟩
    refine v_aload_n C dX5_drop_26 rfl ?_
    refine v_get C dX5_drop_27 fl_X5_10 rfl rfl ?_
    refine v_get C dX5_drop_30 fl_X5_57 rfl rfl ?_
    have hst := st7_mono m (m + 1) (by omega)
    refine v_iret C E dX5_drop_33 (Or.inr ⟨m, rfl, rfl, l, 0, cu, re, pa, N, F, ⟨by omega, hW, hW2, fun k hk => hw k (by omega), hl.1, fun c h1 h2 => hl.2.1 c h1 (by omega), hl.2.2⟩, ⟨fun k hk => ?_, fun k h1 h2 => ?_⟩, Or.inl rfl, hN, rfl⟩)
    · unfold va_up
      split
      · omega
      · exact hq.1 k hk
    · unfold va_up
      split
      · rfl
      · exact hq.2 k (by omega) h2
set_option maxHeartbeats 4000000 in
set_option maxRecDepth 100000 in
theorem c_of (x : Int32) (ha : CA W n w q h tl) : Con yX5_of cX5_of 2 (some .int) d [.ref 0, .int x] h (fun r h' => r = some (.int (if x = 0 then nI W else if x = 1 then nI n else -1)) ∧ h' = h) := by
  obtain ⟨l, sd, cu, re, pa, N, F, ok, hq, hs, hN, rfl⟩ := ha
  refine con_of [(0, .ref 0), (1, .int x)] (by decide) (fun _ => Nat.le_of_ble_eq_true rfl) (fun _ => rfl) (fun X C E => ?_)
  refine v_iload_n C dX5_of_0 rfl ?_
  refine v_if_ne C 12 dX5_of_1 (by decide) (fun c1 => ?_) (fun c1 => ?_)
  · refine v_iload_n C dX5_of_12 rfl ?_
    refine v_iconst C (1) dX5_of_13 (by decide) ?_
    refine v_icmp_ne C 27 dX5_of_14 (by decide) (fun c2 => ?_) (fun c2 => ?_)
    · refine v_iconst C (-1) dX5_of_27 (by decide) ?_
      exact v_iret C E dX5_of_28 ⟨by rw [if_neg c1, if_neg c2], rfl⟩
    · refine v_aload_n C dX5_of_17 rfl ?_
      refine v_get C dX5_of_18 fl_X5_10 rfl rfl ?_
      refine v_get C dX5_of_21 fl_X5_57 rfl rfl ?_
      refine v_goto C 28 dX5_of_24 (by decide) ?_
      exact v_iret C E dX5_of_28 ⟨by rw [if_neg c1, if_pos c2]; rfl, rfl⟩
  · refine v_aload_n C dX5_of_4 rfl ?_
    refine v_get C dX5_of_5 fl_X5_10 rfl rfl ?_
    refine v_get C dX5_of_8 fl_X5_61 rfl rfl ?_
    exact v_iret C E dX5_of_11 ⟨by rw [if_pos c1]; rfl, rfl⟩
set_option maxHeartbeats 4000000 in
set_option maxRecDepth 100000 in
theorem c_ofKind (x y : Int32) (ha : CA W n w q h tl) (hd : 1 ≤ d) : Con yX5_ofKind cX5_ofKind 3 (some .int) d [.ref 0, .int x, .int y] h (fun r h' => h' = h ∧ ((¬ (¬ x < 0 ∧ x < nI n) ∧ r = some (.int (-1))) ∨ ∃ a, a < n ∧ x = nI a ∧ r = some (.int (if y = 0 then nI (w a) else if y = 1 then nI (q a) else -1)))) := by
  obtain ⟨l, sd, cu, re, pa, N, F, ok, hq, hs, hN, rfl⟩ := ha
  have hn := ok.1
  refine con_of [(0, .ref 0), (1, .int x), (2, .int y)] (by decide) (fun _ => Nat.le_of_ble_eq_true rfl) (fun _ => rfl) (fun X C E => ?_)
  refine v_aload_n C dX5_ofKind_0 rfl ?_
  refine v_get C dX5_ofKind_1 fl_X5_10 rfl rfl ?_
  refine v_iload_n C dX5_ofKind_4 rfl ?_
  refine v_callV C dX5_ofKind_5 lk_X5_75 (c_has (d := 0) x) (by omega) rfl rfl rfl rfl rfl (Nat.le_of_ble_eq_true rfl) ?_
  rintro r h' ⟨rfl, rfl⟩
  by_cases c1 : ¬ x < 0 ∧ x < nI n
  · rw [if_pos c1]
    refine v_if_ne C 13 dX5_ofKind_8 (by decide) (fun _ => ?_) (fun z => absurd z (by decide))
    obtain ⟨a, ha1, rfl⟩ := nI_of c1.1
    have han : a < n := (nI_ltI ha1 (by omega)).mp c1.2
    refine v_iload_n C dX5_ofKind_13 rfl ?_
    refine v_if_ne C 27 dX5_ofKind_14 (by decide) (fun c2 => ?_) (fun c2 => ?_)
    · refine v_iload_n C dX5_ofKind_27 rfl ?_
      refine v_iconst C (1) dX5_ofKind_28 (by decide) ?_
      refine v_icmp_ne C 44 dX5_ofKind_29 (by decide) (fun c3 => ?_) (fun c3 => ?_)
      · refine v_iconst C (-1) dX5_ofKind_44 (by decide) ?_
        exact v_iret C E dX5_ofKind_45 ⟨rfl, Or.inr ⟨a, han, rfl, by rw [if_neg c2, if_neg c3]⟩⟩
      · refine v_aload_n C dX5_ofKind_32 rfl ?_
        refine v_get C dX5_ofKind_33 fl_X5_10 rfl rfl ?_
        refine v_get C dX5_ofKind_36 fl_X5_78 rfl rfl ?_
        refine v_iload_n C dX5_ofKind_39 rfl ?_
        refine v_iald C a dX5_ofKind_40 rfl rfl (by omega) (by decide) ?_
        refine v_goto C 45 dX5_ofKind_41 (by decide) ?_
        exact v_iret C E dX5_ofKind_45 ⟨rfl, Or.inr ⟨a, han, rfl, by rw [if_neg c2, if_pos c3]; rfl⟩⟩
    · refine v_aload_n C dX5_ofKind_17 rfl ?_
      refine v_get C dX5_ofKind_18 fl_X5_10 rfl rfl ?_
      refine v_get C dX5_ofKind_21 fl_X5_85 rfl rfl ?_
      refine v_iload_n C dX5_ofKind_24 rfl ?_
      refine v_iald C a dX5_ofKind_25 rfl rfl (by omega) (by decide) ?_
      exact v_iret C E dX5_ofKind_26 ⟨rfl, Or.inr ⟨a, han, rfl, by rw [if_pos c2]; rfl⟩⟩
  · rw [if_neg c1]
    refine v_if_ne C 13 dX5_ofKind_8 (by decide) (fun z => absurd rfl z) (fun _ => ?_)
    refine v_iconst C (-1) dX5_ofKind_11 (by decide) ?_
    exact v_iret C E dX5_ofKind_12 ⟨rfl, Or.inl ⟨c1, rfl⟩⟩
set_option maxHeartbeats 4000000 in
set_option maxRecDepth 100000 in
theorem c_rolls (ha : CA W n w q h tl) (hd : 1 ≤ d) : Con yX5_rolls cX5_rolls 1 (some .int) d [.ref 0] h (fun r h' => ∃ m, m ≤ 24 ∧ IsF W w q m ∧ r = some (.int (nI m)) ∧ h' = h) := by
  obtain ⟨l, sd, cu, re, pa, N, F, ok, hq, hs, hN, rfl⟩ := ha
  refine con_of [(0, .ref 0)] (by decide) (fun _ => Nat.le_of_ble_eq_true rfl) (fun _ => rfl) (fun X C E => ?_)
  refine v_aload_n C dX5_rolls_0 rfl ?_
  refine v_get C dX5_rolls_1 fl_X5_21 rfl rfl ?_
  refine v_aload_n C dX5_rolls_4 rfl ?_
  refine v_get C dX5_rolls_5 fl_X5_10 rfl rfl ?_
  refine v_get C dX5_rolls_8 fl_X5_78 rfl rfl ?_
  refine v_callS C dX5_rolls_11 lk_X5_88 (c_codeOf 0 3 q _ rfl) (by omega) rfl rfl (Nat.le_of_ble_eq_true rfl) ?_
  rintro r h' ⟨rfl, rfl⟩
  have hc := cdN_le hq.1 4 (Nat.le_refl 4)
  refine v_callV C dX5_rolls_14 lk_X5_92 (c_fewest (d := 0) (cdN q 4) hc ok.2.1 ok.2.2.1 (ok.2.2.2.2.2.2 _ hc)) (by omega) rfl rfl rfl rfl rfl (Nat.le_of_ble_eq_true rfl) ?_
  rintro r h' ⟨rfl, rfl⟩
  exact v_iret C E dX5_rolls_17 ⟨fr W l q, fr_24 ok hq, isF_fr ok hq, rfl, rfl⟩
theorem isF_uniq {m m' : Nat} (h : IsF W w q m) (h' : IsF W w q m') : m = m' := Nat.le_antisymm (h.2 _ h'.1) (h'.2 _ h.1)
def CutOk (n m : Nat) (x y : Int32) : Prop := (¬ y < 0 ∧ y < nI n) ∧ ¬ x < 0 ∧ x < nI m
set_option maxHeartbeats 4000000 in
set_option maxRecDepth 100000 in
theorem c_cut (x y : Int32) (ha : CA W n w q h tl) (hd : 5 ≤ d) : Con yX5_cut cX5_cut 3 (some .int) d [.ref 0, .int x, .int y] h (fun r h' => CA W n w q h' tl ∧ ∃ m cu, IsF W w q m ∧ ((¬ CutOk n m x y ∧ r = some (.int (-1))) ∨ ∃ i k, i < m ∧ k < n ∧ x = nI i ∧ y = nI k ∧ PlanOK W n w q m cu ∧ r = some (.int (nI (cu (4 * i + k)))))) := by
  have ha0 := ha
  obtain ⟨l, sd, cu, re, pa, N, F, ok, hq, hs, hN, rfl⟩ := ha
  have hn := ok.1
  have hF := isF_fr ok hq
  have h24 := fr_24 ok hq
  refine con_of [(0, .ref 0), (1, .int x), (2, .int y)] (by decide) (fun _ => Nat.le_of_ble_eq_true rfl) (fun _ => rfl) (fun X C E => ?_)
  have no : ¬ CutOk n (fr W l q) x y → V 3 X (hC (jJ W n w q) (iN l) (pP sd cu re pa) N F tl) 23 [(0, .ref 0), (1, .int x), (2, .int y)] [] := by
    intro z
    refine v_iconst C (-1) dX5_cut_23 (by decide) ?_
    exact v_iret C E dX5_cut_24 ⟨ha0, fr W l q, cu, hF, Or.inl ⟨z, rfl⟩⟩
  refine v_aload_n C dX5_cut_0 rfl ?_
  refine v_get C dX5_cut_1 fl_X5_10 rfl rfl ?_
  refine v_iload_n C dX5_cut_4 rfl ?_
  refine v_callV C dX5_cut_5 lk_X5_75 (c_has (d := 0) y) (by omega) rfl rfl rfl rfl rfl (Nat.le_of_ble_eq_true rfl) ?_
  rintro r h' ⟨rfl, rfl⟩
  by_cases c1 : ¬ y < 0 ∧ y < nI n
  · rw [if_pos c1]
    refine v_if_eq C 23 dX5_cut_8 (by decide) (fun z => absurd z (by decide)) (fun _ => ?_)
    refine v_iload_n C dX5_cut_11 rfl ?_
    refine v_if_lt C 23 dX5_cut_12 (by decide) (fun c2 => ?_) (fun c2 => ?_)
    · exact no (fun z => z.2.1 c2)
    refine v_iload_n C dX5_cut_15 rfl ?_
    refine v_aload_n C dX5_cut_16 rfl ?_
    refine v_callV C dX5_cut_17 lk_X5_96 (c_rolls (d := 1) ha0 (by decide)) (by omega) rfl rfl rfl rfl rfl (Nat.le_of_ble_eq_true rfl) ?_
    rintro r h' ⟨m, hm, hm2, rfl, rfl⟩
    have hmf : m = fr W l q := isF_uniq hm2 hF
    subst hmf
    refine v_icmp_lt C 25 dX5_cut_20 (by decide) (fun c3 => ?_) (fun c3 => ?_)
    · obtain ⟨k, hk1, rfl⟩ := nI_of c1.1
      have hkn : k < n := (nI_ltI hk1 (by omega)).mp c1.2
      obtain ⟨i, hi1, rfl⟩ := nI_of c2
      have him : i < fr W l q := (nI_ltI hi1 (by omega)).mp c3
      refine v_aload_n C dX5_cut_25 rfl ?_
      refine v_get C dX5_cut_26 fl_X5_30 rfl rfl ?_
      refine v_iload_n C dX5_cut_29 rfl ?_
      refine v_iload_n C dX5_cut_30 rfl ?_
      have hpc : Con yX3_pieces cX3_pieces 3 (some .int) 4 [.ref 6, .int (nI i), .int (nI k)] (hC (jJ W n w q) (iN l) (pP sd cu re pa) N F tl) (fun r h' => ∃ cu' re' pa' : Nat → Nat, PlanOK W n w q (fr W l q) cu' ∧ r = some (.int (nI (cu' (4 * i + k)))) ∧ h' = hC (jJ W n w q) (iN l) (pP 1 cu' re' pa') N F tl) := by
        refine con_of [(0, .ref 6), (1, .int (nI i)), (2, .int (nI k))] (by decide) (fun _ => Nat.le_of_ble_eq_true rfl) (fun _ => rfl) (fun X C E => ?_)
        have fin : ∀ cu' re' pa' : Nat → Nat, PlanOK W n w q (fr W l q) cu' → V 3 X (hC (jJ W n w q) (iN l) (pP 1 cu' re' pa') N F tl) 11 [(0, .ref 6), (1, .int (nI i)), (2, .int (nI k))] [] := by
          intro cu' re' pa' hP
          refine v_aload_n C dX3_pieces_11 rfl ?_
          refine v_get C dX3_pieces_12 fl_X3_9 rfl rfl ?_
          refine v_iload_n C dX3_pieces_15 rfl ?_
          refine v_iconst C (4) dX3_pieces_16 (by decide) ?_
          refine v_imul C dX3_pieces_17 ?_
          refine v_iload_n C dX3_pieces_18 rfl ?_
          refine v_iadd C dX3_pieces_19 ?_
          refine v_iald C (4 * i + k) dX3_pieces_20 rfl ?_ (by omega) (by decide) ?_
          · show nI i * nI 4 + nI k = _
            rw [pk_mul, nI_add, Nat.mul_comm]
          exact v_iret C E dX3_pieces_21 ⟨cu', re', pa', hP, rfl, rfl⟩
        refine v_aload_n C dX3_pieces_0 rfl ?_
        refine v_get C dX3_pieces_1 fl_X3_21 rfl rfl ?_
        rcases hs with rfl | ⟨rfl, hP⟩
        · refine v_if_ne C 11 dX3_pieces_4 (by decide) (fun z => absurd rfl z) (fun _ => ?_)
          refine v_aload_n C dX3_pieces_7 rfl ?_
          refine v_callV C dX3_pieces_8 lk_X3_33 (c_make (d := 3) ok hq (by decide)) (by decide) rfl rfl rfl rfl rfl (Nat.le_of_ble_eq_true rfl) ?_
          rintro r h' ⟨rfl, cu', re', pa', hP, rfl⟩
          exact fin cu' re' pa' hP
        · refine v_if_ne C 11 dX3_pieces_4 (by decide) (fun _ => ?_) (fun z => absurd z (by show ¬ (1 : Int32) = 0; decide))
          exact fin cu re pa hP
      refine v_callV C dX5_cut_31 lk_X5_100 hpc (by omega) rfl rfl rfl rfl rfl (Nat.le_of_ble_eq_true rfl) ?_
      rintro r h' ⟨cu', re', pa', hP, rfl, rfl⟩
      exact v_iret C E dX5_cut_34 ⟨⟨l, 1, cu', re', pa', N, F, ok, hq, Or.inr ⟨rfl, hP⟩, hN, rfl⟩, fr W l q, cu', hF, Or.inr ⟨i, k, him, hkn, rfl, rfl, hP, rfl⟩⟩
    · exact no (fun z => c3 z.2.2)
  · rw [if_neg c1]
    refine v_if_eq C 23 dX5_cut_8 (by decide) (fun _ => ?_) (fun z => absurd rfl z)
    exact no (fun z => c1 z.1)
def WithOk (W : Nat) (w q : Nat → Nat) (x0 x1 x2 x3 : Int32) : Prop := ∃ a0 a1 a2 a3 : Nat, x0 = nI a0 ∧ x1 = nI a1 ∧ x2 = nI a2 ∧ x3 = nI a3 ∧ a0 ≤ q 0 ∧ a1 ≤ q 1 ∧ a2 ≤ q 2 ∧ a3 ≤ q 3 ∧ a0 * w 0 + a1 * w 1 + a2 * w 2 + a3 * w 3 ≤ W
def v4 (a0 a1 a2 a3 : Nat) : Nat → Nat := fun k => match k with
  | 0 => a0
  | 1 => a1
  | 2 => a2
  | _ => a3
set_option maxHeartbeats 4000000 in
set_option maxRecDepth 100000 in
theorem c_with (x0 x1 x2 x3 : Int32) (ha : CA W n w q h tl) (hd : 2 ≤ d) : Con yX5_with cX5_with 7 (some .int) d [.ref 0, .int x0, .int x1, .int x2, .int x3] h (fun r h' => h' = h ∧ ((¬ WithOk W w q x0 x1 x2 x3 ∧ r = some (.int (-1))) ∨ ∃ a0 a1 a2 a3 m, x0 = nI a0 ∧ x1 = nI a1 ∧ x2 = nI a2 ∧ x3 = nI a3 ∧ (∀ k, k < 4 → v4 a0 a1 a2 a3 k ≤ q k) ∧ wt w (v4 a0 a1 a2 a3) ≤ W ∧ IsF W w (vsub q (v4 a0 a1 a2 a3)) m ∧ m ≤ 24 ∧ r = some (.int (nI (1 + m))))) := by
  obtain ⟨l, sd, cu, re, pa, N, F, ok, hq, hs, hN, rfl⟩ := ha
  obtain ⟨hn, hW, hW2, hw, hl⟩ := id ok
  have hww := hN.2
  have q0 := hq.1 0 (by omega)
  have q1 := hq.1 1 (by omega)
  have q2 := hq.1 2 (by omega)
  have q3 := hq.1 3 (by omega)
  refine con_of [(0, .ref 0), (1, .int x0), (2, .int x1), (3, .int x2), (4, .int x3)] (by decide) (fun _ => Nat.le_of_ble_eq_true rfl) (fun _ => rfl) (fun X C E => ?_)
  have no : ¬ WithOk W w q x0 x1 x2 x3 → V 7 X (hC (jJ W n w q) (iN l) (pP sd cu re pa) N F tl) 49 [(0, .ref 0), (1, .int x0), (2, .int x1), (3, .int x2), (4, .int x3)] [] := by
    intro z
    refine v_iconst C (-1) dX5_with_49 (by decide) ?_
    exact v_iret C E dX5_with_50 ⟨rfl, Or.inl ⟨z, rfl⟩⟩
  have low : ∀ (b : Nat), b ≤ 6 → ∀ x : Int32, (∃ a : Nat, x = nI a ∧ a ≤ b) → ¬ x < 0 ∧ x ≤ nI b := by
    rintro b hb x ⟨a, rfl, h⟩
    exact ⟨nI_pos (by omega), nI_le h (by omega)⟩
  refine v_aload_n C dX5_with_0 rfl ?_
  refine v_get C dX5_with_1 fl_X5_10 rfl rfl ?_
  refine v_iconst C (0) dX5_with_4 (by decide) ?_
  refine v_iload_n C dX5_with_5 rfl ?_
  refine v_callV C dX5_with_6 lk_X5_103 (c_asksFor (d := 0) 0 (by decide) x0) (by omega) rfl rfl rfl rfl rfl (Nat.le_of_ble_eq_true rfl) ?_
  rintro r h' ⟨rfl, rfl⟩
  by_cases c0 : ¬ x0 < 0 ∧ x0 ≤ nI (q 0)
  case neg =>
    rw [if_neg c0]
    refine v_if_eq C 49 dX5_with_9 (by decide) (fun _ => ?_) (fun z => absurd rfl z)
    exact no (fun ⟨a0, a1, a2, a3, e0, e1, e2, e3, h0, h1, h2, h3, h4⟩ => c0 (low _ q0 x0 ⟨a0, e0, h0⟩))
  rw [if_pos c0]
  refine v_if_eq C 49 dX5_with_9 (by decide) (fun z => absurd z (by decide)) (fun _ => ?_)
  refine v_aload_n C dX5_with_12 rfl ?_
  refine v_get C dX5_with_13 fl_X5_10 rfl rfl ?_
  refine v_iconst C (1) dX5_with_16 (by decide) ?_
  refine v_iload_n C dX5_with_17 rfl ?_
  refine v_callV C dX5_with_18 lk_X5_103 (c_asksFor (d := 0) 1 (by decide) x1) (by omega) rfl rfl rfl rfl rfl (Nat.le_of_ble_eq_true rfl) ?_
  rintro r h' ⟨rfl, rfl⟩
  by_cases c1 : ¬ x1 < 0 ∧ x1 ≤ nI (q 1)
  case neg =>
    rw [if_neg c1]
    refine v_if_eq C 49 dX5_with_21 (by decide) (fun _ => ?_) (fun z => absurd rfl z)
    exact no (fun ⟨a0, a1, a2, a3, e0, e1, e2, e3, h0, h1, h2, h3, h4⟩ => c1 (low _ q1 x1 ⟨a1, e1, h1⟩))
  rw [if_pos c1]
  refine v_if_eq C 49 dX5_with_21 (by decide) (fun z => absurd z (by decide)) (fun _ => ?_)
  refine v_aload_n C dX5_with_24 rfl ?_
  refine v_get C dX5_with_25 fl_X5_10 rfl rfl ?_
  refine v_iconst C (2) dX5_with_28 (by decide) ?_
  refine v_iload_n C dX5_with_29 rfl ?_
  refine v_callV C dX5_with_30 lk_X5_103 (c_asksFor (d := 0) 2 (by decide) x2) (by omega) rfl rfl rfl rfl rfl (Nat.le_of_ble_eq_true rfl) ?_
  rintro r h' ⟨rfl, rfl⟩
  by_cases c2 : ¬ x2 < 0 ∧ x2 ≤ nI (q 2)
  case neg =>
    rw [if_neg c2]
    refine v_if_eq C 49 dX5_with_33 (by decide) (fun _ => ?_) (fun z => absurd rfl z)
    exact no (fun ⟨a0, a1, a2, a3, e0, e1, e2, e3, h0, h1, h2, h3, h4⟩ => c2 (low _ q2 x2 ⟨a2, e2, h2⟩))
  rw [if_pos c2]
  refine v_if_eq C 49 dX5_with_33 (by decide) (fun z => absurd z (by decide)) (fun _ => ?_)
  refine v_aload_n C dX5_with_36 rfl ?_
  refine v_get C dX5_with_37 fl_X5_10 rfl rfl ?_
  refine v_iconst C (3) dX5_with_40 (by decide) ?_
  refine v_iload C dX5_with_41 rfl ?_
  refine v_callV C dX5_with_43 lk_X5_103 (c_asksFor (d := 0) 3 (by decide) x3) (by omega) rfl rfl rfl rfl rfl (Nat.le_of_ble_eq_true rfl) ?_
  rintro r h' ⟨rfl, rfl⟩
  by_cases c3 : ¬ x3 < 0 ∧ x3 ≤ nI (q 3)
  case neg =>
    rw [if_neg c3]
    refine v_if_ne C 51 dX5_with_46 (by decide) (fun z => absurd rfl z) (fun _ => ?_)
    exact no (fun ⟨a0, a1, a2, a3, e0, e1, e2, e3, h0, h1, h2, h3, h4⟩ => c3 (low _ q3 x3 ⟨a3, e3, h3⟩))
  rw [if_pos c3]
  refine v_if_ne C 51 dX5_with_46 (by decide) (fun _ => ?_) (fun z => absurd z (by decide))
  obtain ⟨a0, g0, rfl⟩ := nI_of2 (M := nI (q 0)) (n := q 0) (nI_toInt (by omega)) c0.1 c0.2
  obtain ⟨a1, g1, rfl⟩ := nI_of2 (M := nI (q 1)) (n := q 1) (nI_toInt (by omega)) c1.1 c1.2
  obtain ⟨a2, g2, rfl⟩ := nI_of2 (M := nI (q 2)) (n := q 2) (nI_toInt (by omega)) c2.1 c2.2
  obtain ⟨a3, g3, rfl⟩ := nI_of2 (M := nI (q 3)) (n := q 3) (nI_toInt (by omega)) c3.1 c3.2
  have hm0 : a0 * w 0 ≤ 6 * 60 := Nat.mul_le_mul (by omega) (hww 0 (by omega))
  have hm1 : a1 * w 1 ≤ 6 * 60 := Nat.mul_le_mul (by omega) (hww 1 (by omega))
  have hm2 : a2 * w 2 ≤ 6 * 60 := Nat.mul_le_mul (by omega) (hww 2 (by omega))
  have hm3 : a3 * w 3 ≤ 6 * 60 := Nat.mul_le_mul (by omega) (hww 3 (by omega))
  have hle : ∀ k, k < 4 → v4 a0 a1 a2 a3 k ≤ q k := all4 g0 g1 g2 g3
  refine v_aload_n C dX5_with_51 rfl ?_
  refine v_get C dX5_with_52 fl_X5_10 rfl rfl ?_
  refine v_get C dX5_with_55 fl_X5_85 rfl rfl ?_
  refine v_astore C dX5_with_58 (by decide) ?_
  refine v_iload_n C dX5_with_60 rfl ?_
  refine v_aload C dX5_with_61 rfl ?_
  refine v_iconst C (0) dX5_with_63 (by decide) ?_
  refine v_iald C 0 dX5_with_64 rfl rfl (by decide) (by decide) ?_
  refine v_imul C dX5_with_65 ?_
  refine v_iload_n C dX5_with_66 rfl ?_
  refine v_aload C dX5_with_67 rfl ?_
  refine v_iconst C (1) dX5_with_69 (by decide) ?_
  refine v_iald C 1 dX5_with_70 rfl rfl (by decide) (by decide) ?_
  refine v_imul C dX5_with_71 ?_
  refine v_iadd C dX5_with_72 ?_
  refine v_iload_n C dX5_with_73 rfl ?_
  refine v_aload C dX5_with_74 rfl ?_
  refine v_iconst C (2) dX5_with_76 (by decide) ?_
  refine v_iald C 2 dX5_with_77 rfl rfl (by decide) (by decide) ?_
  refine v_imul C dX5_with_78 ?_
  refine v_iadd C dX5_with_79 ?_
  refine v_iload C dX5_with_80 rfl ?_
  refine v_aload C dX5_with_82 rfl ?_
  refine v_iconst C (3) dX5_with_84 (by decide) ?_
  refine v_iald C 3 dX5_with_85 rfl rfl (by decide) (by decide) ?_
  refine v_imul C dX5_with_86 ?_
  refine v_iadd C dX5_with_87 ?_
  refine v_aload_n C dX5_with_88 rfl ?_
  refine v_get C dX5_with_89 fl_X5_10 rfl rfl ?_
  refine v_get C dX5_with_92 fl_X5_61 rfl rfl ?_
  refine v_eq (st' := [.int (nI W), .int (nI (wt w (v4 a0 a1 a2 a3)))]) ?_ rfl rfl rfl ?_
  case refine_2 =>
    show [Value.int (nI W), .int (nI a0 * nI (w 0) + nI a1 * nI (w 1) + nI a2 * nI (w 2) + nI a3 * nI (w 3))] = _
    rw [pk_mul, pk_mul, pk_mul, pk_mul, nI_add, nI_add, nI_add]
    rfl
  have hwd : wt w (v4 a0 a1 a2 a3) = a0 * w 0 + a1 * w 1 + a2 * w 2 + a3 * w 3 := rfl
  by_cases c4 : wt w (v4 a0 a1 a2 a3) ≤ W
  case neg =>
    refine v_icmp_le C 100 dX5_with_95 (by decide) (fun z => absurd ((nI_leI (by omega) (by omega)).mp z) c4) (fun _ => ?_)
    refine v_iconst C (-1) dX5_with_98 (by decide) ?_
    refine v_iret C E dX5_with_99 ⟨rfl, Or.inl ⟨?_, rfl⟩⟩
    rintro ⟨b0, b1, b2, b3, e0, e1, e2, e3, h0, h1, h2, h3, h4⟩
    have f0 := (nI_eq (by omega) (by omega)).mp e0
    have f1 := (nI_eq (by omega) (by omega)).mp e1
    have f2 := (nI_eq (by omega) (by omega)).mp e2
    have f3 := (nI_eq (by omega) (by omega)).mp e3
    subst f0; subst f1; subst f2; subst f3
    exact c4 h4
  refine v_icmp_le C 100 dX5_with_95 (by decide) (fun _ => ?_) (fun z => absurd (nI_le c4 (by omega)) z)
  refine v_iload_n C dX5_with_100 rfl ?_
  refine v_getS C dX5_with_101 (by decide +kernel) ?_
  refine v_iconst C (0) dX5_with_104 (by decide) ?_
  refine v_step C 0 dX5_with_105 rfl (by decide) ?_
  refine v_imul C dX5_with_106 ?_
  refine v_iload_n C dX5_with_107 rfl ?_
  refine v_getS C dX5_with_108 (by decide +kernel) ?_
  refine v_iconst C (1) dX5_with_111 (by decide) ?_
  refine v_step C 1 dX5_with_112 rfl (by decide) ?_
  refine v_imul C dX5_with_113 ?_
  refine v_iadd C dX5_with_114 ?_
  refine v_iload_n C dX5_with_115 rfl ?_
  refine v_getS C dX5_with_116 (by decide +kernel) ?_
  refine v_iconst C (2) dX5_with_119 (by decide) ?_
  refine v_step C 2 dX5_with_120 rfl (by decide) ?_
  refine v_imul C dX5_with_121 ?_
  refine v_iadd C dX5_with_122 ?_
  refine v_iload C dX5_with_123 rfl ?_
  refine v_getS C dX5_with_125 (by decide +kernel) ?_
  refine v_iconst C (3) dX5_with_128 (by decide) ?_
  refine v_step C 3 dX5_with_129 rfl (by decide) ?_
  refine v_imul C dX5_with_130 ?_
  refine v_iadd C dX5_with_131 ?_
  refine v_istore C dX5_with_132 (by decide) ?_
  refine v_iconst C (1) dX5_with_134 (by decide) ?_
  refine v_aload_n C dX5_with_135 rfl ?_
  refine v_get C dX5_with_136 fl_X5_21 rfl rfl ?_
  refine v_aload_n C dX5_with_139 rfl ?_
  refine v_get C dX5_with_140 fl_X5_10 rfl rfl ?_
  refine v_get C dX5_with_143 fl_X5_78 rfl rfl ?_
  refine v_callS C dX5_with_146 lk_X5_88 (c_codeOf 0 3 q _ rfl) (by omega) rfl rfl (Nat.le_of_ble_eq_true rfl) ?_
  rintro r h' ⟨rfl, rfl⟩
  refine v_iload C dX5_with_149 rfl ?_
  refine v_isub C dX5_with_151 ?_
  have hmono := cdN_mono hle
  have hc := cdN_le hq.1 4 (Nat.le_refl 4)
  have hcs : cdN q 4 - cdN (v4 a0 a1 a2 a3) 4 = cdN (vsub q (v4 a0 a1 a2 a3)) 4 := cdN_sub (fun k hk => by have := hle k hk; show v4 a0 a1 a2 a3 k + (q k - v4 a0 a1 a2 a3 k) = q k; omega)
  have hcv := cnt_sub (p := v4 a0 a1 a2 a3) hq
  refine v_eq (st' := [.int (nI (cdN (vsub q (v4 a0 a1 a2 a3)) 4)), .ref 4, .int 1]) ?_ rfl rfl rfl ?_
  case refine_2 =>
    show [Value.int (nI (cdN q 4) - (nI a0 * nI 1 + nI a1 * nI 7 + nI a2 * nI 49 + nI a3 * nI 343)), .ref 4, .int 1] = _
    rw [pk_mul, pk_mul, pk_mul, pk_mul, nI_add, nI_add, nI_add]
    have e9 : a0 * 1 + a1 * 7 + a2 * 49 + a3 * 343 = cdN (v4 a0 a1 a2 a3) 4 := by
      simp only [cdN, st7, v4]
      omega
    rw [e9, pk_sub hmono, hcs]
  have hc2 := cdN_le hcv.1 4 (Nat.le_refl 4)
  refine v_callV C dX5_with_152 lk_X5_92 (c_fewest (d := 0) _ hc2 hW hW2 (hl.2.2 _ hc2)) (by omega) rfl rfl rfl rfl rfl (Nat.le_of_ble_eq_true rfl) ?_
  rintro r h' ⟨rfl, rfl⟩
  refine v_iadd C dX5_with_155 ?_
  refine v_iret C E dX5_with_156 ⟨rfl, Or.inr ⟨a0, a1, a2, a3, fr W l (vsub q (v4 a0 a1 a2 a3)), rfl, rfl, rfl, rfl, hle, c4, isF_fr ok hcv, fr_24 ok hcv, ?_⟩⟩
  show some (Value.int (nI 1 + nI (fr W l (vsub q (v4 a0 a1 a2 a3))))) = _
  rw [nI_add]
end API
