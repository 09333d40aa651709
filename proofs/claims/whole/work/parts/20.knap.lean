/-! longs as whole numbers; Knapsack -/
def lI (z : Int) : Int64 := Int64.ofInt z
def Sm (B z : Int) : Prop := -B ≤ z ∧ z ≤ B
theorem lI_add (a b : Int) : lI a + lI b = lI (a + b) := (Int64.ofInt_add a b).symm
theorem lI_sub (a b : Int) : lI a - lI b = lI (a - b) := (Int64.ofInt_sub a b).symm
theorem lI_mul (a b : Int) : lI a * lI b = lI (a * b) := (Int64.ofInt_mul a b).symm
theorem lI_neg (a : Int) : -lI a = lI (-a) := (Int64.ofInt_neg a).symm
theorem lI_to {a : Int} (h1 : -2 ^ 63 ≤ a) (h2 : a < 2 ^ 63) : (lI a).toInt = a := Int64.toInt_ofInt_of_le h1 h2
theorem lI_of (x : Int64) : x = lI x.toInt := (Int64.ofInt_toInt x).symm
abbrev L62 : Int := 4611686018427387904
theorem lI_tS {a : Int} (h : Sm L62 a) : (lI a).toInt = a := lI_to (by have := h.1; unfold L62 at this; omega) (by have := h.2; unfold L62 at this; omega)
theorem lI_lt {a b : Int} (ha : Sm L62 a) (hb : Sm L62 b) : lI a < lI b ↔ a < b := by rw [Int64.lt_iff_toInt_lt, lI_tS ha, lI_tS hb]
theorem lI_le {a b : Int} (ha : Sm L62 a) (hb : Sm L62 b) : lI a ≤ lI b ↔ a ≤ b := by rw [Int64.le_iff_toInt_le, lI_tS ha, lI_tS hb]
theorem lI_eq {a b : Int} (ha : Sm L62 a) (hb : Sm L62 b) : lI a = lI b ↔ a = b := by rw [← Int64.toInt_inj, lI_tS ha, lI_tS hb]
theorem nI_lI {n : Nat} (h : n < 2 ^ 31) : (nI n).toInt64 = lI n := by
  rw [← Int64.ofInt_int32ToInt, nI_toInt h]
  rfl
theorem lI_nI (n : Nat) : (lI (n : Int)).toInt32 = nI n := by
  unfold lI nI
  rw [Int64.toInt32_ofInt, Int32.ofInt_eq_ofNat]
theorem lI_div {a b : Int} (ha : Sm L62 a) (hb : Sm L62 b) (h0 : 0 < b) : lI a / lI b = lI (a.tdiv b) := by
  have h1 : ((lI a) / (lI b)).toInt = a.tdiv b := by
    rw [Int64.toInt_div_of_ne_right _ _ (fun z => by
      have := congrArg Int64.toInt z
      rw [lI_tS hb] at this
      have h5 : ((-1 : Int64)).toInt = -1 := rfl
      omega), lI_tS ha, lI_tS hb]
  rw [lI_of (lI a / lI b), h1]
/-- one room of the knapsack, after k kinds: the worth, and the last piece -/
def fk (w : Nat → Nat) (wo be : Nat → Int) (r : Nat) : Nat → Int × Int32
  | 0 => (be (r - 1), -1)
  | k + 1 => if w k ≤ r ∧ (fk w wo be r k).1 < be (r - w k) + wo k then (be (r - w k) + wo k, nI k) else fk w wo be r k
theorem fk_sm {w : Nat → Nat} {wo be : Nat → Int} {r : Nat} {B : Int} (hr : 1 ≤ r) {n : Nat} (hw : ∀ k, k < n → 1 ≤ w k) (hbe : ∀ i, i < r → Sm B (be i)) (hwo : ∀ k, k < n → Sm B (wo k)) (hB : 0 ≤ B) : ∀ k, k ≤ n → Sm (B + B) (fk w wo be r k).1
  | 0, _ => by
    have := hbe (r - 1) (by omega)
    show Sm (B + B) (be (r - 1))
    unfold Sm at this ⊢
    omega
  | k + 1, h => by
    have ih := fk_sm hr hw hbe hwo hB k (by omega)
    unfold fk
    split
    · rename_i e
      have h1 := hbe (r - w k) (by have := hw k (by omega); omega)
      have h2 := hwo k (by omega)
      show Sm (B + B) (be (r - w k) + wo k)
      unfold Sm at h1 h2 ⊢
      omega
    · exact ih
theorem fk_congr {w : Nat → Nat} {wo be be' : Nat → Int} {r n : Nat} (hr : 1 ≤ r) (hw : ∀ k, k < n → 1 ≤ w k) (h : ∀ i, i < r → be i = be' i) : ∀ k, k ≤ n → fk w wo be r k = fk w wo be' r k
  | 0, _ => by
    show (be (r - 1), (-1 : Int32)) = (be' (r - 1), -1)
    rw [h (r - 1) (by omega)]
  | k + 1, hk => by
    have ih := fk_congr (wo := wo) hr hw h k (by omega)
    unfold fk
    rw [ih]
    by_cases e : w k ≤ r
    · rw [h (r - w k) (by have := hw k (by omega); omega)]
    · rw [if_neg (fun z => e z.1), if_neg (fun z => e z.1)]
section KNAP
variable {W n : Nat} {w q : Nat → Nat} {L : Nat → Int32} {P : SP} {F : SF} {tl : List PC} {d : Nat} {wo be : Nat → Int} {wl bl : Nat → Int64} {pc : Nat → Int32}
set_option maxHeartbeats 8000000 in
set_option maxRecDepth 100000 in
theorem c_fill (r : Nat) (hr : 1 ≤ r) (hr2 : r ≤ 60) (hn : n ≤ 4) (hw : ∀ k, k < n → 1 ≤ w k ∧ w k ≤ 60) (B : Int) (hB0 : 0 ≤ B) (hB : B ≤ 1152921504606846976) (hwl : ∀ k, k < n → wl k = lI (wo k)) (hwo : ∀ k, k < n → Sm B (wo k)) (hbl : ∀ i, i < r → bl i = lI (be i)) (hbe : ∀ i, i < r → Sm B (be i)) : Con yX2_fill cX2_fill 4 none d [.ref 10, .int (nI r)] (hC (jJ W n w q) L P (wl, bl, pc) F tl) (fun o h' => o = none ∧ ∃ bl' pc', (∀ i, i ≠ r → bl' i = bl i ∧ pc' i = pc i) ∧ bl' r = lI (fk w wo be r n).1 ∧ pc' r = (fk w wo be r n).2 ∧ h' = hC (jJ W n w q) L P (wl, bl', pc') F tl) := by
  refine con_of [(0, .ref 10), (1, .int (nI r))] (by decide) (fun _ => Nat.le_of_ble_eq_true rfl) (fun _ => rfl) (fun X C E => ?_)
  have hw1 : ∀ k, k < n → 1 ≤ w k := fun k hk => (hw k hk).1
  have hsm := fk_sm (n := n) hr hw1 hbe hwo hB0
  have s2 : ∀ z, Sm (B + B) z → Sm L62 z := fun z h => by unfold Sm L62 at *; omega
  have key : ∀ (m k : Nat) (bl' : Nat → Int64) (pc' : Nat → Int32), k + m = n → (∀ i, i ≠ r → bl' i = bl i ∧ pc' i = pc i) → bl' r = lI (fk w wo be r k).1 → pc' r = (fk w wo be r k).2 → V 4 X (hC (jJ W n w q) L P (wl, bl', pc') F tl) 23 [(0, .ref 10), (1, .int (nI r)), (2, .int (nI k))] [] := by
    intro m
    induction m with
    | zero =>
      intro k bl' pc' hk h1 h2 h3
      obtain rfl : k = n := by omega
      refine v_iload_n C dX2_fill_23 rfl ?_
      refine v_aload_n C dX2_fill_24 rfl ?_
      refine v_get C dX2_fill_25 fl_X2_22 rfl rfl ?_
      refine v_get C dX2_fill_28 fl_X2_36 rfl rfl ?_
      refine v_icmp_ge C 105 dX2_fill_31 (by decide) (fun _ => ?_) (fun q => absurd (nI_le (Nat.le_refl _) (by omega)) q)
      exact v_vret C E dX2_fill_105 ⟨rfl, bl', pc', h1, h2, h3, rfl⟩
    | succ m ih =>
      intro k bl' pc' hk h1 h2 h3
      have hk4 : k < 4 := by omega
      obtain ⟨w1, w2⟩ := hw k (by omega)
      have skip : ∀ x : Int32, fk w wo be r (k + 1) = fk w wo be r k → V 4 X (hC (jJ W n w q) L P (wl, bl', pc') F tl) 99 [(0, .ref 10), (1, .int (nI r)), (2, .int (nI k)), (3, .int x)] [] := by
        intro x hx
        refine v_iinc C dX2_fill_99 rfl (nI_1 k) (by decide) ?_
        refine v_goto C 23 dX2_fill_102 (by decide) ?_
        exact v_keep [0, 1, 2] (ih (k + 1) bl' pc' (by omega) h1 (by rw [hx]; exact h2) (by rw [hx]; exact h3))
      refine v_iload_n C dX2_fill_23 rfl ?_
      refine v_aload_n C dX2_fill_24 rfl ?_
      refine v_get C dX2_fill_25 fl_X2_22 rfl rfl ?_
      refine v_get C dX2_fill_28 fl_X2_36 rfl rfl ?_
      refine v_icmp_ge C 105 dX2_fill_31 (by decide) (fun q => absurd q (nI_ge (by omega) (by omega))) (fun _ => ?_)
      refine v_iload_n C dX2_fill_34 rfl ?_
      refine v_aload_n C dX2_fill_35 rfl ?_
      refine v_get C dX2_fill_36 fl_X2_22 rfl rfl ?_
      refine v_get C dX2_fill_39 fl_X2_39 rfl rfl ?_
      refine v_iload_n C dX2_fill_42 rfl ?_
      refine v_iald C k dX2_fill_43 rfl rfl hk4 (by decide) ?_
      refine v_isub C dX2_fill_44 ?_
      refine v_istore_n C dX2_fill_45 (by decide) ?_
      refine v_iload_n C dX2_fill_46 rfl ?_
      by_cases e : w k ≤ r
      case neg =>
        refine v_if_lt C 99 dX2_fill_47 (by decide) (fun _ => ?_) (fun q => absurd (pk_sneg (by omega) (Nat.not_le.mp e)) q)
        exact skip _ (if_neg (fun z => e z.1))
      have e1 : nI r - nI (w k) = nI (r - w k) := pk_sub e
      refine v_eq (lv' := [(0, .ref 10), (1, .int (nI r)), (2, .int (nI k)), (3, .int (nI (r - w k)))]) (st' := [.int (nI (r - w k))]) ?_ rfl rfl (congrArg (fun z => [(0, Value.ref 10), (1, .int (nI r)), (2, .int (nI k)), (3, .int z)]) e1) (congrArg (fun z => [Value.int z]) e1)
      refine v_if_lt C 99 dX2_fill_47 (by decide) (fun q => absurd q (nI_pos (by omega))) (fun _ => ?_)
      have hrd : bl' (r - w k) = lI (be (r - w k)) := by rw [(h1 (r - w k) (by omega)).1]; exact hbl _ (by omega)
      have hsum : bl' (r - w k) + wl k = lI (be (r - w k) + wo k) := by rw [hrd, hwl k (by omega), lI_add]
      have sm1 : Sm (B + B) (be (r - w k) + wo k) := by
        have a1 := hbe (r - w k) (by omega)
        have a2 := hwo k (by omega)
        unfold Sm at *
        omega
      refine v_aload_n C dX2_fill_50 rfl ?_
      refine v_get C dX2_fill_51 fl_X2_15 rfl rfl ?_
      refine v_iload_n C dX2_fill_54 rfl ?_
      refine v_lald C (r - w k) dX2_fill_55 rfl rfl (by omega) (by decide) ?_
      refine v_aload_n C dX2_fill_56 rfl ?_
      refine v_get C dX2_fill_57 fl_X2_9 rfl rfl ?_
      refine v_iload_n C dX2_fill_60 rfl ?_
      refine v_lald C k dX2_fill_61 rfl rfl hk4 (by decide) ?_
      refine v_ladd C dX2_fill_62 ?_
      refine v_aload_n C dX2_fill_63 rfl ?_
      refine v_get C dX2_fill_64 fl_X2_15 rfl rfl ?_
      refine v_iload_n C dX2_fill_67 rfl ?_
      refine v_lald C r dX2_fill_68 rfl rfl (by omega) (by decide) ?_
      refine v_lcmp C dX2_fill_69 ?_
      by_cases e2 : (fk w wo be r k).1 < be (r - w k) + wo k
      · have hcmp : ¬ lg_cmp (bl' (r - w k) + wl k) (bl' r) ≤ 0 := by
          rw [lg_cmp_le, hsum, h2, lI_le (s2 _ sm1) (s2 _ (hsm k (by omega)))]
          omega
        refine v_if_le C 99 dX2_fill_70 (by decide) (fun q => absurd q (hcmp)) (fun _ => ?_)
        refine v_aload_n C dX2_fill_73 rfl ?_
        refine v_get C dX2_fill_74 fl_X2_15 rfl rfl ?_
        refine v_iload_n C dX2_fill_77 rfl ?_
        refine v_aload_n C dX2_fill_78 rfl ?_
        refine v_get C dX2_fill_79 fl_X2_15 rfl rfl ?_
        refine v_iload_n C dX2_fill_82 rfl ?_
        refine v_lald C (r - w k) dX2_fill_83 rfl rfl (by omega) (by decide) ?_
        refine v_aload_n C dX2_fill_84 rfl ?_
        refine v_get C dX2_fill_85 fl_X2_9 rfl rfl ?_
        refine v_iload_n C dX2_fill_88 rfl ?_
        refine v_lald C k dX2_fill_89 rfl rfl hk4 (by decide) ?_
        refine v_ladd C dX2_fill_90 ?_
        refine v_last C r dX2_fill_91 rfl rfl (by omega) (by decide) ?_
        refine v_aload_n C dX2_fill_92 rfl ?_
        refine v_get C dX2_fill_93 fl_X2_18 rfl rfl ?_
        refine v_iload_n C dX2_fill_96 rfl ?_
        refine v_iload_n C dX2_fill_97 rfl ?_
        refine v_iast C r dX2_fill_98 rfl rfl (by omega) (by decide) ?_
        refine v_iinc C dX2_fill_99 rfl (nI_1 k) (by decide) ?_
        refine v_goto C 23 dX2_fill_102 (by decide) ?_
        have hfk : fk w wo be r (k + 1) = (be (r - w k) + wo k, nI k) := if_pos ⟨e, e2⟩
        refine v_keep [0, 1, 2] (ih (k + 1) (vp_updL bl' r (bl' (r - w k) + wl k)) (upd pc' r (nI k)) (by omega) (fun i hi => ?_) ?_ ?_)
        · exact ⟨(if_neg hi).trans (h1 i hi).1, (if_neg hi).trans (h1 i hi).2⟩
        · rw [hfk, show vp_updL bl' r (bl' (r - w k) + wl k) r = _ from if_pos rfl, hsum]
        · rw [hfk]
          exact if_pos rfl
      · have hcmp : lg_cmp (bl' (r - w k) + wl k) (bl' r) ≤ 0 := by
          rw [lg_cmp_le, hsum, h2, lI_le (s2 _ sm1) (s2 _ (hsm k (by omega)))]
          omega
        refine v_if_le C 99 dX2_fill_70 (by decide) (fun _ => ?_) (fun q => absurd (hcmp) q)
        exact skip _ (if_neg (fun z => e2 z.2))
  refine v_aload_n C dX2_fill_0 rfl ?_
  refine v_get C dX2_fill_1 fl_X2_15 rfl rfl ?_
  refine v_iload_n C dX2_fill_4 rfl ?_
  refine v_aload_n C dX2_fill_5 rfl ?_
  refine v_get C dX2_fill_6 fl_X2_15 rfl rfl ?_
  refine v_iload_n C dX2_fill_9 rfl ?_
  refine v_iconst C (1) dX2_fill_10 (by decide) ?_
  refine v_isub C dX2_fill_11 ?_
  refine v_lald C (r - 1) dX2_fill_12 rfl (pk_sub (by omega)) (by omega) (by decide) ?_
  refine v_last C r dX2_fill_13 rfl rfl (by omega) (by decide) ?_
  refine v_aload_n C dX2_fill_14 rfl ?_
  refine v_get C dX2_fill_15 fl_X2_18 rfl rfl ?_
  refine v_iload_n C dX2_fill_18 rfl ?_
  refine v_iconst C (-1) dX2_fill_19 (by decide) ?_
  refine v_iast C r dX2_fill_20 rfl rfl (by omega) (by decide) ?_
  refine v_iconst C (0) dX2_fill_21 (by decide) ?_
  refine v_istore_n C dX2_fill_22 (by decide) ?_
  refine key n 0 (vp_updL bl r (bl (r - 1))) (upd pc r (-1)) (by omega) (fun i hi => ⟨if_neg hi, if_neg hi⟩) ?_ (if_pos rfl)
  rw [show vp_updL bl r (bl (r - 1)) r = _ from if_pos rfl, hbl (r - 1) (by omega)]
  rfl
/-- what the knapsack holds behind greatest() -/
def KOk (W n : Nat) (w : Nat → Nat) (wo K : Nat → Int) (KP : Nat → Int32) : Prop := K 0 = 0 ∧ ∀ r, 1 ≤ r → r ≤ W → (K r, KP r) = fk w wo K r n
theorem KOk_sm {K : Nat → Int} {M : Int} (hM : 0 ≤ M) (hw : ∀ k, k < n → 1 ≤ w k) (hwo : ∀ k, k < n → Sm M (wo k)) : ∀ (R : Nat), K 0 = 0 → (∀ r, 1 ≤ r → r ≤ R → K r = (fk w wo K r n).1) → ∀ r, r ≤ R → 0 ≤ K r ∧ K r ≤ r * M := by
  intro R h0 hs r
  induction r using Nat.strongRecOn with
  | ind r ih =>
    intro hr
    by_cases e : r = 0
    · subst e
      rw [h0]
      omega
    · have h1 := hs r (by omega) hr
      have step : ∀ k, k ≤ n → 0 ≤ (fk w wo K r k).1 ∧ (fk w wo K r k).1 ≤ r * M := by
        intro k
        induction k with
        | zero =>
          intro _
          have h2 := ih (r - 1) (by omega) (by omega)
          have h3 : (((r - 1 : Nat) : Int)) * M ≤ (r : Int) * M := Int.mul_le_mul_of_nonneg_right (by omega) hM
          show 0 ≤ K (r - 1) ∧ K (r - 1) ≤ _
          omega
        | succ k ihk =>
          intro hk
          have h2 := ihk (by omega)
          unfold fk
          split
          · rename_i e2
            have hw1 := hw k (by omega)
            have h3 := ih (r - w k) (by omega) (by omega)
            have h4 := hwo k (by omega)
            have h5 : (((r - w k : Nat) : Int)) * M ≤ ((r : Int) - 1) * M := Int.mul_le_mul_of_nonneg_right (by omega) hM
            have h6 : ((r : Int) - 1) * M = r * M - M := by rw [Int.sub_mul, Int.one_mul]
            show 0 ≤ K (r - w k) + wo k ∧ K (r - w k) + wo k ≤ _
            unfold Sm at h4
            omega
          · exact h2
      rw [h1]
      exact step n (Nat.le_refl n)
set_option maxHeartbeats 8000000 in
set_option maxRecDepth 100000 in
theorem c_greatest (hn : n ≤ 4) (hW2 : W ≤ 60) (hw : ∀ k, k < n → 1 ≤ w k ∧ w k ≤ 60) (M : Int) (hM0 : 0 ≤ M) (hM : M ≤ 18014398509481984) (hwl : ∀ k, k < n → wl k = lI (wo k)) (hwo : ∀ k, k < n → Sm M (wo k)) (hbl : bl 0 = 0) (hd : 1 ≤ d) : Con yX2_greatest cX2_greatest 2 (some .long) d [.ref 10] (hC (jJ W n w q) L P (wl, bl, pc) F tl) (fun o h' => ∃ bl' pc' K KP, KOk W n w wo K KP ∧ (∀ r, r ≤ W → bl' r = lI (K r)) ∧ (∀ r, 1 ≤ r → r ≤ W → pc' r = KP r) ∧ o = some (.long (lI (K W))) ∧ h' = hC (jJ W n w q) L P (wl, bl', pc') F tl) := by
  refine con_of [(0, .ref 10)] (by decide) (fun _ => Nat.le_of_ble_eq_true rfl) (fun _ => rfl) (fun X C E => ?_)
  have hw1 : ∀ k, k < n → 1 ≤ w k := fun k hk => (hw k hk).1
  have key : ∀ (m r : Nat) (bl' : Nat → Int64) (pc' : Nat → Int32) (K : Nat → Int), r + m = W → (∀ i, i ≤ r → bl' i = lI (K i)) → K 0 = 0 → (∀ i, 1 ≤ i → i ≤ r → (K i, pc' i) = fk w wo K i n) → V 2 X (hC (jJ W n w q) L P (wl, bl', pc') F tl) 2 [(0, .ref 10), (1, .int (nI (r + 1)))] [] := by
    intro m
    induction m with
    | zero =>
      intro r bl' pc' K hr h1 h2 h3
      obtain rfl : r = W := by omega
      refine v_iload_n C dX2_greatest_2 rfl ?_
      refine v_aload_n C dX2_greatest_3 rfl ?_
      refine v_get C dX2_greatest_4 fl_X2_22 rfl rfl ?_
      refine v_get C dX2_greatest_7 fl_X2_26 rfl rfl ?_
      refine v_icmp_gt C 24 dX2_greatest_10 (by decide) (fun _ => ?_) (fun q => absurd (nI_lt (by omega) (by omega)) q)
      refine v_aload_n C dX2_greatest_24 rfl ?_
      refine v_get C dX2_greatest_25 fl_X2_15 rfl rfl ?_
      refine v_aload_n C dX2_greatest_28 rfl ?_
      refine v_get C dX2_greatest_29 fl_X2_22 rfl rfl ?_
      refine v_get C dX2_greatest_32 fl_X2_26 rfl rfl ?_
      refine v_lald C r dX2_greatest_35 rfl rfl (by omega) (by decide) ?_
      exact v_lret C E dX2_greatest_36 ⟨bl', pc', K, pc', ⟨h2, h3⟩, h1, fun _ _ _ => rfl, congrArg (fun z => some (Value.long z)) (h1 r (Nat.le_refl r)), rfl⟩
    | succ m ih =>
      intro r bl' pc' K hr h1 h2 h3
      have hb := KOk_sm (R := r) hM0 hw1 hwo h2 (fun i a b => by rw [← h3 i a b])
      refine v_iload_n C dX2_greatest_2 rfl ?_
      refine v_aload_n C dX2_greatest_3 rfl ?_
      refine v_get C dX2_greatest_4 fl_X2_22 rfl rfl ?_
      refine v_get C dX2_greatest_7 fl_X2_26 rfl rfl ?_
      refine v_icmp_gt C 24 dX2_greatest_10 (by decide) (fun q => absurd q (nI_nlt (by omega) (by omega))) (fun _ => ?_)
      refine v_aload_n C dX2_greatest_13 rfl ?_
      refine v_iload_n C dX2_greatest_14 rfl ?_
      refine v_callV C dX2_greatest_15 lk_X2_32 (c_fill (d := 0) (wo := wo) (be := K) (r + 1) (by omega) (by omega) hn hw (60 * M) (by omega) (by omega) hwl (fun k hk => by have := hwo k hk; unfold Sm at *; omega) (fun i hi => h1 i (by omega)) (fun i hi => ?_)) hd rfl rfl rfl rfl rfl (Nat.le_of_ble_eq_true rfl) ?_
      · have h4 := hb i (by omega)
        have h5 : (i : Int) * M ≤ 60 * M := Int.mul_le_mul_of_nonneg_right (by omega) hM0
        unfold Sm
        omega
      rintro o h' ⟨rfl, bl2, pc2, g1, g2, g3, rfl⟩
      refine v_iinc C dX2_greatest_18 rfl (nI_1 (r + 1)) (by decide) ?_
      refine v_goto C 2 dX2_greatest_21 (by decide) ?_
      have hcg : ∀ i, i < r + 1 → K i = (fun i => if i = r + 1 then (fk w wo K (r + 1) n).1 else K i) i := fun i hi => (if_neg (by omega)).symm
      refine ih (r + 1) bl2 pc2 (fun i => if i = r + 1 then (fk w wo K (r + 1) n).1 else K i) (by omega) (fun i hi => ?_) ?_ (fun i a b => ?_)
      · show bl2 i = lI (if i = r + 1 then (fk w wo K (r + 1) n).1 else K i)
        by_cases e : i = r + 1
        · rw [if_pos e, e]; exact g2
        · rw [if_neg e, (g1 i e).1]; exact h1 i (by omega)
      · show (if 0 = r + 1 then (fk w wo K (r + 1) n).1 else K 0) = 0
        rw [if_neg (by omega)]; exact h2
      · rw [← fk_congr (wo := wo) (n := n) a hw1 (fun j hj => hcg j (by omega)) n (Nat.le_refl n)]
        show ((if i = r + 1 then (fk w wo K (r + 1) n).1 else K i), pc2 i) = _
        by_cases e : i = r + 1
        · rw [if_pos e, e, g3]
        · rw [if_neg e, (g1 i e).2]; exact h3 i a (by omega)
  refine v_iconst C (1) dX2_greatest_0 (by decide) ?_
  refine v_istore_n C dX2_greatest_1 (by decide) ?_
  refine key W 0 bl pc (fun _ => 0) (Nat.zero_add W) (fun i hi => ?_) rfl (fun i a b => absurd b (by omega))
  obtain rfl : i = 0 := by omega
  exact hbl
end KNAP
