/-! the reference's codes: the first kind's digit is the greatest -/
def dv (c : Nat) : Nat → Nat := fun k => c / st7 (3 - k) % 7
theorem dv_le (c k : Nat) : dv c k ≤ 6 := Nat.le_of_lt_succ (Nat.mod_lt _ (by decide))
theorem bc_dv {c : Nat} (h : c < 2401) : bcN (dv c) = c := by
  show 343 * (c / 343 % 7) + 49 * (c / 49 % 7) + 7 * (c / 7 % 7) + c / 1 % 7 = c
  omega
theorem dv_bc {v : Nat → Nat} (h : ∀ k, k < 4 → v k ≤ 6) : eq4 (dv (bcN v)) v := by
  have h0 := h 0 (by omega)
  have h1 := h 1 (by omega)
  have h2 := h 2 (by omega)
  have h3 := h 3 (by omega)
  unfold bcN
  apply all4
  · show (343 * v 0 + 49 * v 1 + 7 * v 2 + v 3) / 343 % 7 = v 0
    omega
  · show (343 * v 0 + 49 * v 1 + 7 * v 2 + v 3) / 49 % 7 = v 1
    omega
  · show (343 * v 0 + 49 * v 1 + 7 * v 2 + v 3) / 7 % 7 = v 2
    omega
  · show (343 * v 0 + 49 * v 1 + 7 * v 2 + v 3) / 1 % 7 = v 3
    omega
theorem bc_lt {v : Nat → Nat} (h : ∀ k, k < 4 → v k ≤ 6) : bcN v < 2401 := by
  have h0 := h 0 (by omega)
  have h1 := h 1 (by omega)
  have h2 := h 2 (by omega)
  have h3 := h 3 (by omega)
  unfold bcN
  omega
theorem bc_congr {v v' : Nat → Nat} (e : eq4 v v') : bcN v = bcN v' := by
  unfold bcN
  rw [e 0 (by omega), e 1 (by omega), e 2 (by omega), e 3 (by omega)]
theorem bc_sub {v p : Nat → Nat} (h : ∀ k, k < 4 → p k ≤ v k) : bcN v - bcN p = bcN (vsub v p) := by
  have h0 := h 0 (by omega)
  have h1 := h 1 (by omega)
  have h2 := h 2 (by omega)
  have h3 := h 3 (by omega)
  unfold bcN vsub
  omega
theorem bc_le {v p : Nat → Nat} (h : ∀ k, k < 4 → p k ≤ v k) : bcN p ≤ bcN v := by
  have h0 := h 0 (by omega)
  have h1 := h 1 (by omega)
  have h2 := h 2 (by omega)
  have h3 := h 3 (by omega)
  unfold bcN
  omega
theorem st7_s : ∀ j, j < 4 → st7 (j + 1) = st7 j * 7 := by
  apply all4 <;> rfl
def hb (q : Nat → Nat) : Nat → Nat
  | 0 => 0
  | i + 1 => 7 * hb q i + q i
theorem hb_4 (q : Nat → Nat) : hb q 4 = bcN q := by
  simp only [hb, bcN]
  omega
section DIG
variable {c : Nat → PC} {W n : Nat} {w q : Nat → Nat} {Q : SQ} {D : Nat → Int32} {G : SG} {d : Nat} {h : List PC}
set_option maxHeartbeats 4000000 in
set_option maxRecDepth 100000 in
theorem m_digit (x k : Nat) (hx : x < 2401) (hk : k < 4) : Con yX6_digit cX6_digit 4 (some .int) d [.int (nI x), .int (nI k)] h (fun r h' => r = some (.int (nI (dv x k))) ∧ h' = h) := by
  refine con_of [(0, .int (nI x)), (1, .int (nI k))] (by decide) (fun _ => Nat.le_of_ble_eq_true rfl) (fun _ => rfl) (fun X C E => ?_)
  have key : ∀ (m i : Nat), i = k + m → i ≤ 3 → V 4 X h 4 [(0, .int (nI x)), (1, .int (nI k)), (2, .int (nI (x / st7 (3 - i)))), (3, .int (nI i))] [] := by
    intro m
    induction m with
    | zero =>
      intro i hi h3
      refine v_iload_n C dX6_digit_4 rfl ?_
      refine v_iload_n C dX6_digit_5 rfl ?_
      refine v_icmp_le C 20 dX6_digit_6 (by decide) (fun _ => ?_) (fun q => absurd (nI_le (by omega) (by omega)) q)
      refine v_iload_n C dX6_digit_20 rfl ?_
      refine v_bipush C (7) dX6_digit_21 (by decide) ?_
      refine v_irem C dX6_digit_23 (by decide) ?_
      refine v_iret C E dX6_digit_24 ⟨?_, rfl⟩
      have e : nI (x / st7 (3 - i)) - nI (x / st7 (3 - i)) / nI 7 * nI 7 = nI (x / st7 (3 - i) % 7) := nI_rm (Nat.lt_of_le_of_lt (Nat.div_le_self _ _) (by omega)) (by decide) (by decide)
      show some (Value.int (nI (x / st7 (3 - i)) - nI (x / st7 (3 - i)) / nI 7 * nI 7)) = _
      rw [e, show i = k by omega]
      rfl
    | succ m ih =>
      intro i hi h3
      refine v_iload_n C dX6_digit_4 rfl ?_
      refine v_iload_n C dX6_digit_5 rfl ?_
      refine v_icmp_le C 20 dX6_digit_6 (by decide) (fun q => absurd q (nI_ge (by omega) (by omega))) (fun _ => ?_)
      refine v_iload_n C dX6_digit_9 rfl ?_
      refine v_bipush C (7) dX6_digit_10 (by decide) ?_
      refine v_idiv C dX6_digit_12 (by decide) ?_
      refine v_istore_n C dX6_digit_13 (by decide) ?_
      obtain ⟨j, rfl⟩ : ∃ j, i = j + 1 := ⟨i - 1, by omega⟩
      refine v_iinc C dX6_digit_14 rfl (pk_m1 j) (by decide) ?_
      refine v_goto C 4 dX6_digit_17 (by decide) ?_
      refine v_eq (ih j (by omega) (by omega)) rfl rfl ?_ rfl
      show [(0, Value.int (nI x)), (1, .int (nI k)), (2, .int (nI (x / st7 (3 - (j + 1))) / nI 7)), (3, .int (nI j))] = _
      rw [nI_dv (Nat.lt_of_le_of_lt (Nat.div_le_self _ _) (by omega)) (by decide) (by decide), Nat.div_div_eq_div_mul, ← st7_s _ (by omega), show 3 - (j + 1) + 1 = 3 - j by omega]
  refine v_iload_n C dX6_digit_0 rfl ?_
  refine v_istore_n C dX6_digit_1 (by decide) ?_
  refine v_iconst C (3) dX6_digit_2 (by decide) ?_
  refine v_istore_n C dX6_digit_3 (by decide) ?_
  refine v_eq (key (3 - k) 3 (by omega) (by omega)) rfl rfl ?_ rfl
  show [(0, Value.int (nI x)), (1, .int (nI k)), (2, .int (nI x)), (3, .int 3)] = _
  rw [show x / st7 (3 - 3) = x from Nat.div_one x]
  rfl
set_option maxHeartbeats 4000000 in
set_option maxRecDepth 100000 in
theorem m_isWithin (x y : Nat) (hx : x < 2401) (hy : y < 2401) (hd : 1 ≤ d) : Con yX6_isWithin cX6_isWithin 5 (some .boolean) d [.ref 22, .int (nI x), .int (nI y)] h (fun r h' => ((r = some (.int 1) ∧ ∀ k, k < 4 → dv x k ≤ dv y k) ∨ (r = some (.int 0) ∧ ¬ ∀ k, k < 4 → dv x k ≤ dv y k)) ∧ h' = h) := by
  refine con_of [(0, .ref 22), (1, .int (nI x)), (2, .int (nI y))] (by decide) (fun _ => Nat.le_of_ble_eq_true rfl) (fun _ => rfl) (fun X C E => ?_)
  have key : ∀ (m i : Nat) (b : Int32), i + m = 4 → ((b = 1 ∧ ∀ k, k < i → dv x k ≤ dv y k) ∨ (b = 0 ∧ ¬ ∀ k, k < i → dv x k ≤ dv y k)) → V 5 X h 5 [(0, .ref 22), (1, .int (nI x)), (2, .int (nI y)), (3, .int b), (4, .int (nI i))] [] := by
    intro m
    induction m with
    | zero =>
      intro i b hi hb
      obtain rfl : i = 4 := by omega
      refine v_iload C dX6_isWithin_5 rfl ?_
      refine v_iconst C (4) dX6_isWithin_7 (by decide) ?_
      refine v_icmp_ge C 42 dX6_isWithin_8 (by decide) (fun _ => ?_) (fun q => absurd (nI_le (a := 4) (b := 4) (by omega) (by omega)) q)
      refine v_iload_n C dX6_isWithin_42 rfl ?_
      rcases hb with ⟨rfl, hb⟩ | ⟨rfl, hb⟩
      · exact v_zret C E dX6_isWithin_43 rfl ⟨Or.inl ⟨rfl, hb⟩, rfl⟩
      · exact v_zret C E dX6_isWithin_43 rfl ⟨Or.inr ⟨rfl, hb⟩, rfl⟩
    | succ m ih =>
      intro i b hi hb
      refine v_iload C dX6_isWithin_5 rfl ?_
      refine v_iconst C (4) dX6_isWithin_7 (by decide) ?_
      refine v_icmp_ge C 42 dX6_isWithin_8 (by decide) (fun q => absurd q (nI_ge (b := 4) (by omega) (by omega))) (fun _ => ?_)
      refine v_iload_n C dX6_isWithin_11 rfl ?_
      have no : ¬ (∀ k, k < i + 1 → dv x k ≤ dv y k) → V 5 X h 34 [(0, .ref 22), (1, .int (nI x)), (2, .int (nI y)), (3, .int b), (4, .int (nI i))] [] := by
        intro z
        refine v_iconst C (0) dX6_isWithin_34 (by decide) ?_
        refine v_istore_n C dX6_isWithin_35 (by decide) ?_
        refine v_iinc C dX6_isWithin_36 rfl (nI_1 i) (by decide) ?_
        refine v_goto C 5 dX6_isWithin_39 (by decide) ?_
        exact ih (i + 1) 0 (by omega) (Or.inr ⟨rfl, z⟩)
      rcases hb with ⟨rfl, hb⟩ | ⟨rfl, hb⟩
      · refine v_if_eq C 34 dX6_isWithin_12 (by decide) (fun z => absurd z (by decide)) (fun _ => ?_)
        refine v_iload_n C dX6_isWithin_15 rfl ?_
        refine v_iload C dX6_isWithin_16 rfl ?_
        refine v_callS C dX6_isWithin_18 lk_X6_58 (m_digit (d := 0) x i hx (by omega)) hd rfl rfl (Nat.le_of_ble_eq_true rfl) ?_
        rintro r h' ⟨rfl, rfl⟩
        refine v_iload_n C dX6_isWithin_21 rfl ?_
        refine v_iload C dX6_isWithin_22 rfl ?_
        refine v_callS C dX6_isWithin_24 lk_X6_58 (m_digit (d := 0) y i hy (by omega)) hd rfl rfl (Nat.le_of_ble_eq_true rfl) ?_
        rintro r h' ⟨rfl, rfl⟩
        have h1 := dv_le x i
        have h2 := dv_le y i
        by_cases e : dv x i ≤ dv y i
        · refine v_icmp_gt C 34 dX6_isWithin_27 (by decide) (fun q => absurd q (nI_nlt e (by omega))) (fun _ => ?_)
          refine v_iconst C (1) dX6_isWithin_30 (by decide) ?_
          refine v_goto C 35 dX6_isWithin_31 (by decide) ?_
          refine v_istore_n C dX6_isWithin_35 (by decide) ?_
          refine v_iinc C dX6_isWithin_36 rfl (nI_1 i) (by decide) ?_
          refine v_goto C 5 dX6_isWithin_39 (by decide) ?_
          refine ih (i + 1) 1 (by omega) (Or.inl ⟨rfl, fun k hk => ?_⟩)
          by_cases ek : k = i
          · rw [ek]; exact e
          · exact hb k (by omega)
        · refine v_icmp_gt C 34 dX6_isWithin_27 (by decide) (fun _ => ?_) (fun q => absurd (nI_lt (Nat.not_le.mp e) (by omega)) q)
          exact no (fun z => e (z i (by omega)))
      · refine v_if_eq C 34 dX6_isWithin_12 (by decide) (fun _ => ?_) (fun z => absurd rfl z)
        exact no (fun z => hb (fun k hk => z k (by omega)))
  refine v_iconst C (1) dX6_isWithin_0 (by decide) ?_
  refine v_istore_n C dX6_isWithin_1 (by decide) ?_
  refine v_iconst C (0) dX6_isWithin_2 (by decide) ?_
  refine v_istore C dX6_isWithin_3 (by decide) ?_
  exact key 4 0 1 rfl (Or.inl ⟨rfl, fun k hk => absurd hk (Nat.not_lt_zero k)⟩)
set_option maxHeartbeats 4000000 in
set_option maxRecDepth 100000 in
theorem m_fits (x : Nat) (hx : x < 2401) (hn : n ≤ 4) (hW2 : W ≤ 60) (hw : ∀ k, k < 4 → qn n w k ≤ 60) (hd : 1 ≤ d) : Con yX6_fits cX6_fits 4 (some .boolean) d [.ref 22, .int (nI x)] (hM c (jJ W n w q) Q D G) (fun r h' => ((r = some (.int 1) ∧ wt (qn n w) (dv x) ≤ W) ∨ (r = some (.int 0) ∧ ¬ wt (qn n w) (dv x) ≤ W)) ∧ h' = hM c (jJ W n w q) Q D G) := by
  refine con_of [(0, .ref 22), (1, .int (nI x))] (by decide) (fun _ => Nat.le_of_ble_eq_true rfl) (fun _ => rfl) (fun X C E => ?_)
  have hb : ∀ i, i ≤ 4 → ps (qn n w) (dv x) i ≤ 360 * i := by
    intro i
    induction i with
    | zero => intro _; exact Nat.le_refl _
    | succ i ih =>
      intro hi
      have h1 := ih (by omega)
      have h2 : dv x i * qn n w i ≤ 6 * 60 := Nat.mul_le_mul (dv_le x i) (hw i (by omega))
      have h3 : ps (qn n w) (dv x) (i + 1) = ps (qn n w) (dv x) i + dv x i * qn n w i := rfl
      omega
  have key : ∀ (m i : Nat), i + m = 4 → V 4 X (hM c (jJ W n w q) Q D G) 4 [(0, .ref 22), (1, .int (nI x)), (2, .int (nI (ps (qn n w) (dv x) i))), (3, .int (nI i))] [] := by
    intro m
    induction m with
    | zero =>
      intro i hi
      obtain rfl : i = 4 := by omega
      have h4 := hb 4 (by omega)
      refine v_iload_n C dX6_fits_4 rfl ?_
      refine v_iconst C (4) dX6_fits_5 (by decide) ?_
      refine v_icmp_ge C 29 dX6_fits_6 (by decide) (fun _ => ?_) (fun q => absurd (nI_le (a := 4) (b := 4) (by omega) (by omega)) q)
      refine v_iload_n C dX6_fits_29 rfl ?_
      refine v_aload_n C dX6_fits_30 rfl ?_
      refine v_get C dX6_fits_31 fl_X6_7 rfl rfl ?_
      rw [ps_wt] at h4 ⊢
      by_cases e : wt (qn n w) (dv x) ≤ W
      · refine v_icmp_gt C 41 dX6_fits_34 (by decide) (fun q => absurd q (nI_nlt e (by omega))) (fun _ => ?_)
        refine v_iconst C (1) dX6_fits_37 (by decide) ?_
        refine v_goto C 42 dX6_fits_38 (by decide) ?_
        exact v_zret C E dX6_fits_42 rfl ⟨Or.inl ⟨rfl, e⟩, rfl⟩
      · refine v_icmp_gt C 41 dX6_fits_34 (by decide) (fun _ => ?_) (fun q => absurd (nI_lt (Nat.not_le.mp e) (by omega)) q)
        refine v_iconst C (0) dX6_fits_41 (by decide) ?_
        exact v_zret C E dX6_fits_42 rfl ⟨Or.inr ⟨rfl, e⟩, rfl⟩
    | succ m ih =>
      intro i hi
      refine v_iload_n C dX6_fits_4 rfl ?_
      refine v_iconst C (4) dX6_fits_5 (by decide) ?_
      refine v_icmp_ge C 29 dX6_fits_6 (by decide) (fun q => absurd q (nI_ge (b := 4) (by omega) (by omega))) (fun _ => ?_)
      refine v_iload_n C dX6_fits_9 rfl ?_
      refine v_iload_n C dX6_fits_10 rfl ?_
      refine v_iload_n C dX6_fits_11 rfl ?_
      refine v_callS C dX6_fits_12 lk_X6_58 (m_digit (d := 0) x i hx (by omega)) hd rfl rfl (Nat.le_of_ble_eq_true rfl) ?_
      rintro r h' ⟨rfl, rfl⟩
      refine v_aload_n C dX6_fits_15 rfl ?_
      refine v_iload_n C dX6_fits_16 rfl ?_
      refine v_callV C dX6_fits_17 lk_X6_62 (m_widthOf (d := 0) i (by omega) hn) hd rfl rfl rfl rfl rfl (Nat.le_of_ble_eq_true rfl) ?_
      rintro r h' ⟨rfl, rfl⟩
      refine v_imul C dX6_fits_20 ?_
      refine v_iadd C dX6_fits_21 ?_
      refine v_istore_n C dX6_fits_22 (by decide) ?_
      refine v_iinc C dX6_fits_23 rfl (nI_1 i) (by decide) ?_
      refine v_goto C 4 dX6_fits_26 (by decide) ?_
      refine v_eq (ih (i + 1) (by omega)) rfl rfl ?_ rfl
      show [(0, Value.ref 22), (1, .int (nI x)), (2, .int (nI (ps (qn n w) (dv x) i) + nI (dv x i) * nI (qn n w i))), (3, .int (nI (i + 1)))] = _
      rw [pk_mul, nI_add]
      rfl
  refine v_iconst C (0) dX6_fits_0 (by decide) ?_
  refine v_istore_n C dX6_fits_1 (by decide) ?_
  refine v_iconst C (0) dX6_fits_2 (by decide) ?_
  refine v_istore_n C dX6_fits_3 (by decide) ?_
  exact key 4 0 rfl
set_option maxHeartbeats 4000000 in
set_option maxRecDepth 100000 in
theorem m_all (hn : n ≤ 4) (hd : 1 ≤ d) : Con yX6_all cX6_all 3 (some .int) d [.ref 22] (hM c (jJ W n w q) Q D G) (fun r h' => r = some (.int (nI (bcN (qn n q)))) ∧ h' = hM c (jJ W n w q) Q D G) := by
  refine con_of [(0, .ref 22)] (by decide) (fun _ => Nat.le_of_ble_eq_true rfl) (fun _ => rfl) (fun X C E => ?_)
  have key : ∀ (m i : Nat), i + m = 4 → V 3 X (hM c (jJ W n w q) Q D G) 4 [(0, .ref 22), (1, .int (nI (hb (qn n q) i))), (2, .int (nI i))] [] := by
    intro m
    induction m with
    | zero =>
      intro i hi
      obtain rfl : i = 4 := by omega
      refine v_iload_n C dX6_all_4 rfl ?_
      refine v_iconst C (4) dX6_all_5 (by decide) ?_
      refine v_icmp_ge C 26 dX6_all_6 (by decide) (fun _ => ?_) (fun q => absurd (nI_le (a := 4) (b := 4) (by omega) (by omega)) q)
      refine v_iload_n C dX6_all_26 rfl ?_
      exact v_iret C E dX6_all_27 ⟨by rw [hb_4], rfl⟩
    | succ m ih =>
      intro i hi
      refine v_iload_n C dX6_all_4 rfl ?_
      refine v_iconst C (4) dX6_all_5 (by decide) ?_
      refine v_icmp_ge C 26 dX6_all_6 (by decide) (fun q => absurd q (nI_ge (b := 4) (by omega) (by omega))) (fun _ => ?_)
      refine v_bipush C (7) dX6_all_9 (by decide) ?_
      refine v_iload_n C dX6_all_11 rfl ?_
      refine v_imul C dX6_all_12 ?_
      refine v_aload_n C dX6_all_13 rfl ?_
      refine v_iload_n C dX6_all_14 rfl ?_
      refine v_callV C dX6_all_15 lk_X6_66 (m_demandOf (d := 0) i (by omega) hn) hd rfl rfl rfl rfl rfl (Nat.le_of_ble_eq_true rfl) ?_
      rintro r h' ⟨rfl, rfl⟩
      refine v_iadd C dX6_all_18 ?_
      refine v_istore_n C dX6_all_19 (by decide) ?_
      refine v_iinc C dX6_all_20 rfl (nI_1 i) (by decide) ?_
      refine v_goto C 4 dX6_all_23 (by decide) ?_
      refine v_eq (ih (i + 1) (by omega)) rfl rfl ?_ rfl
      show [(0, Value.ref 22), (1, .int (nI 7 * nI (hb (qn n q) i) + nI (qn n q i))), (2, .int (nI (i + 1)))] = _
      rw [pk_mul, nI_add]
      rfl
  refine v_iconst C (0) dX6_all_0 (by decide) ?_
  refine v_istore_n C dX6_all_1 (by decide) ?_
  refine v_iconst C (0) dX6_all_2 (by decide) ?_
  refine v_istore_n C dX6_all_3 (by decide) ?_
  exact key 4 0 rfl
end DIG
