/-! codeOf, Plan -/
def cdN (f : Nat → Nat) : Nat → Nat
  | 0 => 0
  | k + 1 => cdN f k + f k * st7 k
theorem cdN_le {f : Nat → Nat} (hf : ∀ k, k < 4 → f k ≤ 6) : ∀ k, k ≤ 4 → cdN f k < st7 k
  | 0, _ => Nat.zero_lt_one
  | 1, h => by have := hf 0 (by omega); simp only [cdN, st7]; omega
  | 2, h => by have := hf 0 (by omega); have := hf 1 (by omega); simp only [cdN, st7]; omega
  | 3, h => by have := hf 0 (by omega); have := hf 1 (by omega); have := hf 2 (by omega); simp only [cdN, st7]; omega
  | 4, h => by have := hf 0 (by omega); have := hf 1 (by omega); have := hf 2 (by omega); have := hf 3 (by omega); simp only [cdN, st7]; omega
  | k + 5, h => absurd h (by omega)
theorem cdN_mono {f g : Nat → Nat} (h : ∀ k, k < 4 → f k ≤ g k) : cdN f 4 ≤ cdN g 4 := by
  have h0 := h 0 (by omega)
  have h1 := h 1 (by omega)
  have h2 := h 2 (by omega)
  have h3 := h 3 (by omega)
  simp only [cdN, st7]
  omega
theorem cdN_sub {f g e : Nat → Nat} (h : ∀ k, k < 4 → f k + e k = g k) : cdN g 4 - cdN f 4 = cdN e 4 := by
  have h0 := h 0 (by omega)
  have h1 := h 1 (by omega)
  have h2 := h 2 (by omega)
  have h3 := h 3 (by omega)
  simp only [cdN, st7]
  omega
set_option maxHeartbeats 4000000 in
set_option maxRecDepth 100000 in
theorem c_codeOf (d k : Nat) (f : Nat → Nat) (h : List PC) (ho : h[k]? = some (pI 4 (iN f))) : Con yX5_codeOf cX5_codeOf 3 (some .int) d [.ref k] h (fun r h' => r = some (.int (nI (cdN f 4))) ∧ h' = h) := by
  refine con_of [(0, .ref k)] (by decide) (fun _ => Nat.le_of_ble_eq_true rfl) (fun _ => rfl) (fun X C E => ?_)
  have key : ∀ (m i : Nat), i + m = 4 → V 3 X h 4 [(0, .ref k), (1, .int (nI (cdN f i))), (2, .int (nI i))] [] := by
    intro m
    induction m with
    | zero =>
      intro i hi
      refine v_iload_n C dX5_codeOf_4 rfl ?_
      refine v_iconst C (4) dX5_codeOf_5 (by decide) ?_
      refine v_icmp_ge C 27 dX5_codeOf_6 (by decide) (fun _ => ?_) (fun q => absurd (nI_le (a := 4) (by omega) (by omega)) q)
      refine v_iload_n C dX5_codeOf_27 rfl ?_
      refine v_iret C E dX5_codeOf_28 ⟨?_, rfl⟩
      rw [show i = 4 by omega]
    | succ m ih =>
      intro i hi
      refine v_iload_n C dX5_codeOf_4 rfl ?_
      refine v_iconst C (4) dX5_codeOf_5 (by decide) ?_
      refine v_icmp_ge C 27 dX5_codeOf_6 (by decide) (fun q => absurd q (nI_ge (b := 4) (by omega) (by omega))) (fun _ => ?_)
      refine v_iload_n C dX5_codeOf_9 rfl ?_
      refine v_aload_n C dX5_codeOf_10 rfl ?_
      refine v_iload_n C dX5_codeOf_11 rfl ?_
      refine v_iald C i dX5_codeOf_12 ho rfl (by omega) (by decide) ?_
      refine v_getS C dX5_codeOf_13 (by decide +kernel) ?_
      refine v_iload_n C dX5_codeOf_16 rfl ?_
      refine v_step C i dX5_codeOf_17 rfl (by omega) ?_
      refine v_imul C dX5_codeOf_18 ?_
      refine v_iadd C dX5_codeOf_19 ?_
      refine v_istore_n C dX5_codeOf_20 (by decide) ?_
      refine v_iinc C dX5_codeOf_21 rfl (nI_1 i) (by decide) ?_
      refine v_goto C 4 dX5_codeOf_24 (by decide) ?_
      refine v_eq (ih (i + 1) (by omega)) rfl rfl ?_ rfl
      show [(0, Value.ref k), (1, .int (nI (cdN f i) + nI (f i) * stI i)), (2, .int (nI (i + 1)))] = _
      rw [stI_nI, pk_mul, nI_add]
      rfl
  refine v_iconst C (0) dX5_codeOf_0 (by decide) ?_
  refine v_istore_n C dX5_codeOf_1 (by decide) ?_
  refine v_iconst C (0) dX5_codeOf_2 (by decide) ?_
  refine v_istore_n C dX5_codeOf_3 (by decide) ?_
  exact key 4 0 rfl
def pP (st : Int32) (cu re pa : Nat → Nat) : SP := (st, iN cu, iN re, iN pa)
/-- fillFrom after its first k kinds: the pattern, and the room that is left -/
def ffI (W : Nat) (w re : Nat → Nat) (fi : Nat) (pa : Nat → Nat) : Nat → (Nat → Nat) × Nat
  | 0 => (pa, W)
  | k + 1 => if fi ≤ k then (va_up (ffI W w re fi pa k).1 k (min (re k) ((ffI W w re fi pa k).2 / w k)), (ffI W w re fi pa k).2 - min (re k) ((ffI W w re fi pa k).2 / w k) * w k) else ((ffI W w re fi pa k).1, (ffI W w re fi pa k).2 - (ffI W w re fi pa k).1 k * w k)
theorem ffI_room (W : Nat) (w re : Nat → Nat) (fi : Nat) (pa : Nat → Nat) : ∀ k, (ffI W w re fi pa k).2 ≤ W
  | 0 => Nat.le_refl _
  | k + 1 => by
    have := ffI_room W w re fi pa k
    unfold ffI
    split
    · exact Nat.le_trans (Nat.sub_le _ _) this
    · exact Nat.le_trans (Nat.sub_le _ _) this
theorem ffI_keep (W : Nat) (w re : Nat → Nat) (fi : Nat) (pa : Nat → Nat) : ∀ k j, (j < fi ∨ k ≤ j) → (ffI W w re fi pa k).1 j = pa j
  | 0, _, _ => rfl
  | k + 1, j, hj => by
    unfold ffI
    split
    · show va_up _ k _ j = _
      unfold va_up
      rw [if_neg (by omega)]
      exact ffI_keep W w re fi pa k j (by omega)
    · exact ffI_keep W w re fi pa k j (by omega)
section PLAN
variable {W n : Nat} {w q l cu re pa : Nat → Nat} {sd : Int32} {N : SN} {F : SF} {tl : List PC} {d : Nat}
set_option maxHeartbeats 4000000 in
set_option maxRecDepth 100000 in
theorem c_forget {P : SP} {J : SJ} {L : Nat → Int32} : Con yX3_forget cX3_forget 1 none d [.ref 6] (hC J L P N F tl) (fun r h' => r = none ∧ h' = hC J L (0, P.2) N F tl) := by
  refine con_of [(0, .ref 6)] (by decide) (fun _ => Nat.le_of_ble_eq_true rfl) (fun _ => rfl) (fun X C E => ?_)
  refine v_aload_n C dX3_forget_0 rfl ?_
  refine v_iconst C (0) dX3_forget_1 (by decide) ?_
  refine v_put C dX3_forget_2 fp_X3_21 rfl (fun _ => rfl) (fun _ => rfl) (Nat.le_of_ble_eq_true rfl) ?_
  exact v_vret C E dX3_forget_5 ⟨rfl, rfl⟩
set_option maxHeartbeats 4000000 in
set_option maxRecDepth 100000 in
theorem c_fillFrom (fi : Nat) (hn : n ≤ 4) (hfi : fi ≤ 4) (hW2 : W ≤ 60) (hw : ∀ k, k < n → 1 ≤ w k ∧ w k ≤ 60) (hre : ∀ k, k < 4 → re k ≤ 6) (hfit : ∀ k, k < fi → k < n → pa k * w k ≤ (ffI W w re fi pa k).2) (hd : 1 ≤ d) : Con yX3_fillFrom cX3_fillFrom 4 none d [.ref 6, .int (nI fi)] (hC (jJ W n w q) (iN l) (pP sd cu re pa) N F tl) (fun r h' => r = none ∧ h' = hC (jJ W n w q) (iN l) (pP sd cu re (ffI W w re fi pa n).1) N F tl) := by
  refine con_of [(0, .ref 6), (1, .int (nI fi))] (by decide) (fun _ => Nat.le_of_ble_eq_true rfl) (fun _ => rfl) (fun X C E => ?_)
  have key : ∀ (m k : Nat), k + m = n → V 4 X (hC (jJ W n w q) (iN l) (pP sd cu re (ffI W w re fi pa k).1) N F tl) 10 [(0, .ref 6), (1, .int (nI fi)), (2, .int (nI (ffI W w re fi pa k).2)), (3, .int (nI k))] [] := by
    intro m
    induction m with
    | zero =>
      intro k hk
      refine v_iload_n C dX3_fillFrom_10 rfl ?_
      refine v_aload_n C dX3_fillFrom_11 rfl ?_
      refine v_get C dX3_fillFrom_12 fl_X3_25 rfl rfl ?_
      refine v_get C dX3_fillFrom_15 fl_X3_84 rfl rfl ?_
      refine v_icmp_ge C 77 dX3_fillFrom_18 (by decide) (fun _ => ?_) (fun q => absurd (nI_le (by omega) (by omega)) q)
      refine v_vret C E dX3_fillFrom_77 ⟨rfl, ?_⟩
      rw [show n = k by omega]
    | succ m ih =>
      intro k hk
      have hr := ffI_room W w re fi pa k
      have hwk := hw k (by omega)
      have hrk := hre k (by omega)
      refine v_iload_n C dX3_fillFrom_10 rfl ?_
      refine v_aload_n C dX3_fillFrom_11 rfl ?_
      refine v_get C dX3_fillFrom_12 fl_X3_25 rfl rfl ?_
      refine v_get C dX3_fillFrom_15 fl_X3_84 rfl rfl ?_
      refine v_icmp_ge C 77 dX3_fillFrom_18 (by decide) (fun q => absurd q (nI_ge (by omega) (by omega))) (fun _ => ?_)
      refine v_iload_n C dX3_fillFrom_21 rfl ?_
      refine v_iload_n C dX3_fillFrom_22 rfl ?_
      by_cases hf : fi ≤ k
      · have hmul : min (re k) ((ffI W w re fi pa k).2 / w k) * w k ≤ (ffI W w re fi pa k).2 := Nat.le_trans (Nat.mul_le_mul_right _ (Nat.min_le_right _ _)) (Nat.div_mul_le_self _ _)
        have hdv : (ffI W w re fi pa k).2 / w k ≤ (ffI W w re fi pa k).2 := Nat.div_le_self _ _
        refine v_icmp_lt C 52 dX3_fillFrom_23 (by decide) (fun q => absurd q (nI_nlt hf (by omega))) (fun _ => ?_)
        refine v_aload_n C dX3_fillFrom_26 rfl ?_
        refine v_get C dX3_fillFrom_27 fl_X3_18 rfl rfl ?_
        refine v_iload_n C dX3_fillFrom_30 rfl ?_
        refine v_aload_n C dX3_fillFrom_31 rfl ?_
        refine v_get C dX3_fillFrom_32 fl_X3_15 rfl rfl ?_
        refine v_iload_n C dX3_fillFrom_35 rfl ?_
        refine v_iald C k dX3_fillFrom_36 rfl rfl (by omega) (by decide) ?_
        refine v_iload_n C dX3_fillFrom_37 rfl ?_
        refine v_aload_n C dX3_fillFrom_38 rfl ?_
        refine v_get C dX3_fillFrom_39 fl_X3_25 rfl rfl ?_
        refine v_get C dX3_fillFrom_42 fl_X3_87 rfl rfl ?_
        refine v_iload_n C dX3_fillFrom_45 rfl ?_
        refine v_iald C k dX3_fillFrom_46 rfl rfl (by omega) (by decide) ?_
        refine v_idiv C dX3_fillFrom_47 (nI_ne0 hwk.1 (by omega)) ?_
        refine v_min C dX3_fillFrom_48 hd (by decide +kernel) (Nat.le_of_ble_eq_true rfl) ?_
        refine v_iast C k dX3_fillFrom_51 rfl rfl (by omega) (by decide) ?_
        have e1 : upd (iN (ffI W w re fi pa k).1) k (if (nI (ffI W w re fi pa k).2 / nI (w k)) < nI (re k) then (nI (ffI W w re fi pa k).2 / nI (w k)) else nI (re k)) = iN (ffI W w re fi pa (k + 1)).1 := by
          rw [nI_dv (by omega) hwk.1 (by omega), mn_eq (by omega) (by omega), upd_iN]
          rw [show ffI W w re fi pa (k + 1) = _ from if_pos hf]
        refine v_eq (h' := hC (jJ W n w q) (iN l) (pP sd cu re (ffI W w re fi pa (k + 1)).1) N F tl) ?_ (congrArg (fun z => hC (jJ W n w q) (iN l) (sd, iN cu, iN re, z) N F tl) e1)
        refine v_iload_n C dX3_fillFrom_52 rfl ?_
        refine v_aload_n C dX3_fillFrom_53 rfl ?_
        refine v_get C dX3_fillFrom_54 fl_X3_18 rfl rfl ?_
        refine v_iload_n C dX3_fillFrom_57 rfl ?_
        refine v_iald C k dX3_fillFrom_58 rfl rfl (by omega) (by decide) ?_
        refine v_aload_n C dX3_fillFrom_59 rfl ?_
        refine v_get C dX3_fillFrom_60 fl_X3_25 rfl rfl ?_
        refine v_get C dX3_fillFrom_63 fl_X3_87 rfl rfl ?_
        refine v_iload_n C dX3_fillFrom_66 rfl ?_
        refine v_iald C k dX3_fillFrom_67 rfl rfl (by omega) (by decide) ?_
        refine v_imul C dX3_fillFrom_68 ?_
        refine v_isub C dX3_fillFrom_69 ?_
        refine v_eq (st' := [.int (nI (ffI W w re fi pa (k + 1)).2)]) ?_ rfl rfl rfl ?_
        · refine v_istore_n C dX3_fillFrom_70 (by decide) ?_
          refine v_iinc C dX3_fillFrom_71 rfl (nI_1 k) (by decide) ?_
          refine v_goto C 10 dX3_fillFrom_74 (by decide) ?_
          exact ih (k + 1) (by omega)
        · show [Value.int (nI (ffI W w re fi pa k).2 - nI ((ffI W w re fi pa (k + 1)).1 k) * nI (w k))] = _
          rw [show ffI W w re fi pa (k + 1) = _ from if_pos hf]
          dsimp only
          rw [show va_up (ffI W w re fi pa k).1 k (min (re k) ((ffI W w re fi pa k).2 / w k)) k = _ from if_pos rfl, pk_mul, pk_sub hmul]
      · have hmul : (ffI W w re fi pa k).1 k * w k ≤ (ffI W w re fi pa k).2 := by
          rw [ffI_keep W w re fi pa k k (by omega)]
          exact hfit k (by omega) (by omega)
        have e0 : ffI W w re fi pa (k + 1) = _ := if_neg hf
        refine v_icmp_lt C 52 dX3_fillFrom_23 (by decide) (fun _ => ?_) (fun q => absurd (nI_lt (by omega) (by omega)) q)
        refine v_iload_n C dX3_fillFrom_52 rfl ?_
        refine v_aload_n C dX3_fillFrom_53 rfl ?_
        refine v_get C dX3_fillFrom_54 fl_X3_18 rfl rfl ?_
        refine v_iload_n C dX3_fillFrom_57 rfl ?_
        refine v_iald C k dX3_fillFrom_58 rfl rfl (by omega) (by decide) ?_
        refine v_aload_n C dX3_fillFrom_59 rfl ?_
        refine v_get C dX3_fillFrom_60 fl_X3_25 rfl rfl ?_
        refine v_get C dX3_fillFrom_63 fl_X3_87 rfl rfl ?_
        refine v_iload_n C dX3_fillFrom_66 rfl ?_
        refine v_iald C k dX3_fillFrom_67 rfl rfl (by omega) (by decide) ?_
        refine v_imul C dX3_fillFrom_68 ?_
        refine v_isub C dX3_fillFrom_69 ?_
        refine v_eq (h' := hC (jJ W n w q) (iN l) (pP sd cu re (ffI W w re fi pa (k + 1)).1) N F tl) (st' := [.int (nI (ffI W w re fi pa (k + 1)).2)]) ?_ ?_ rfl rfl ?_
        · refine v_istore_n C dX3_fillFrom_70 (by decide) ?_
          refine v_iinc C dX3_fillFrom_71 rfl (nI_1 k) (by decide) ?_
          refine v_goto C 10 dX3_fillFrom_74 (by decide) ?_
          exact ih (k + 1) (by omega)
        · rw [e0]
        · show [Value.int (nI (ffI W w re fi pa k).2 - nI ((ffI W w re fi pa k).1 k) * nI (w k))] = _
          rw [e0, pk_mul, pk_sub hmul]
  refine v_aload_n C dX3_fillFrom_0 rfl ?_
  refine v_get C dX3_fillFrom_1 fl_X3_25 rfl rfl ?_
  refine v_get C dX3_fillFrom_4 fl_X3_80 rfl rfl ?_
  refine v_istore_n C dX3_fillFrom_7 (by decide) ?_
  refine v_iconst C (0) dX3_fillFrom_8 (by decide) ?_
  refine v_istore_n C dX3_fillFrom_9 (by decide) ?_
  exact key n 0 (by omega)
set_option maxHeartbeats 4000000 in
set_option maxRecDepth 100000 in
theorem c_savesARoll (hW : 0 < W) (hW2 : W ≤ 60) (hre : ∀ k, k < 4 → re k ≤ 6) (hpa : ∀ k, k < 4 → pa k ≤ 6) (hl : ∀ j, j < 2401 → l j ≤ 1440) (hd : 1 ≤ d) : Con yX3_savesARoll cX3_savesARoll 2 (some .boolean) d [.ref 6] (hC (jJ W n w q) (iN l) (pP sd cu re pa) N F tl) (fun r h' => ((r = some (.int 1) ∧ (∀ k, k < 4 → pa k ≤ re k) ∧ cl W (l (cdN re 4 - cdN pa 4)) < cl W (l (cdN re 4))) ∨ (r = some (.int 0) ∧ ¬ ((∀ k, k < 4 → pa k ≤ re k) ∧ cl W (l (cdN re 4 - cdN pa 4)) < cl W (l (cdN re 4))))) ∧ h' = hC (jJ W n w q) (iN l) (pP sd cu re pa) N F tl) := by
  refine con_of [(0, .ref 6)] (by decide) (fun _ => Nat.le_of_ble_eq_true rfl) (fun _ => rfl) (fun X C E => ?_)
  have hc1 : cdN re 4 < 2401 := cdN_le hre 4 (Nat.le_refl 4)
  have hcl : ∀ j, j < 2401 → cl W (l j) < 2 ^ 31 := fun j hj => Nat.lt_of_le_of_lt (Nat.div_le_self _ _) (by have := hl j hj; omega)
  have fin : (∀ k, k < 4 → pa k ≤ re k) → V 2 X (hC (jJ W n w q) (iN l) (pP sd cu re pa) N F tl) 30 [(0, .ref 6)] [] := by
    intro hle
    have hm := cdN_mono hle
    refine v_aload_n C dX3_savesARoll_30 rfl ?_
    refine v_get C dX3_savesARoll_31 fl_X3_15 rfl rfl ?_
    refine v_callN C dX3_savesARoll_34 lk_X3_57 (c_codeOf 0 8 re _ rfl) hd rfl rfl (Nat.le_of_ble_eq_true rfl) ?_
    rintro r h' ⟨rfl, rfl⟩
    refine v_istore_n C dX3_savesARoll_37 (by decide) ?_
    refine v_aload_n C dX3_savesARoll_38 rfl ?_
    refine v_get C dX3_savesARoll_39 fl_X3_29 rfl rfl ?_
    refine v_iload_n C dX3_savesARoll_42 rfl ?_
    refine v_aload_n C dX3_savesARoll_43 rfl ?_
    refine v_get C dX3_savesARoll_44 fl_X3_18 rfl rfl ?_
    refine v_callN C dX3_savesARoll_47 lk_X3_57 (c_codeOf 0 9 pa _ rfl) hd rfl rfl (Nat.le_of_ble_eq_true rfl) ?_
    rintro r h' ⟨rfl, rfl⟩
    refine v_isub C dX3_savesARoll_50 ?_
    refine v_eq (st' := [.int (nI (cdN re 4 - cdN pa 4)), .ref 4]) ?_ rfl rfl rfl (congrArg (fun z => [Value.int z, .ref 4]) (pk_sub hm))
    refine v_callV C dX3_savesARoll_51 lk_X3_61 (c_fewest (d := 0) (cdN re 4 - cdN pa 4) (by omega) hW hW2 (hl _ (by omega))) hd rfl rfl rfl rfl rfl (Nat.le_of_ble_eq_true rfl) ?_
    rintro r h' ⟨rfl, rfl⟩
    refine v_aload_n C dX3_savesARoll_54 rfl ?_
    refine v_get C dX3_savesARoll_55 fl_X3_29 rfl rfl ?_
    refine v_iload_n C dX3_savesARoll_58 rfl ?_
    refine v_callV C dX3_savesARoll_59 lk_X3_61 (c_fewest (d := 0) (cdN re 4) (by omega) hW hW2 (hl _ (by omega))) hd rfl rfl rfl rfl rfl (Nat.le_of_ble_eq_true rfl) ?_
    rintro r h' ⟨rfl, rfl⟩
    by_cases hlt : cl W (l (cdN re 4 - cdN pa 4)) < cl W (l (cdN re 4))
    · refine v_icmp_ge C 69 dX3_savesARoll_62 (by decide) (fun q => absurd q (nI_ge hlt (hcl _ (by omega)))) (fun _ => ?_)
      refine v_iconst C (1) dX3_savesARoll_65 (by decide) ?_
      refine v_goto C 70 dX3_savesARoll_66 (by decide) ?_
      exact v_zret C E dX3_savesARoll_70 rfl ⟨Or.inl ⟨rfl, hle, hlt⟩, rfl⟩
    · refine v_icmp_ge C 69 dX3_savesARoll_62 (by decide) (fun _ => ?_) (fun q => absurd (nI_le (Nat.not_lt.mp hlt) (hcl _ (by omega))) q)
      refine v_iconst C (0) dX3_savesARoll_69 (by decide) ?_
      exact v_zret C E dX3_savesARoll_70 rfl ⟨Or.inr ⟨rfl, fun z => hlt z.2⟩, rfl⟩
  have key : ∀ (m i : Nat), i + m = 4 → (∀ k, k < i → pa k ≤ re k) → V 2 X (hC (jJ W n w q) (iN l) (pP sd cu re pa) N F tl) 2 [(0, .ref 6), (1, .int (nI i))] [] := by
    intro m
    induction m with
    | zero =>
      intro i hi hle
      refine v_iload_n C dX3_savesARoll_2 rfl ?_
      refine v_iconst C (4) dX3_savesARoll_3 (by decide) ?_
      refine v_icmp_ge C 30 dX3_savesARoll_4 (by decide) (fun _ => ?_) (fun q => absurd (nI_le (a := 4) (by omega) (by omega)) q)
      exact v_keep [0] (fin (fun k hk => hle k (by omega)))
    | succ m ih =>
      intro i hi hle
      have h1 := hpa i (by omega)
      have h2 := hre i (by omega)
      refine v_iload_n C dX3_savesARoll_2 rfl ?_
      refine v_iconst C (4) dX3_savesARoll_3 (by decide) ?_
      refine v_icmp_ge C 30 dX3_savesARoll_4 (by decide) (fun q => absurd q (nI_ge (b := 4) (by omega) (by omega))) (fun _ => ?_)
      refine v_aload_n C dX3_savesARoll_7 rfl ?_
      refine v_get C dX3_savesARoll_8 fl_X3_18 rfl rfl ?_
      refine v_iload_n C dX3_savesARoll_11 rfl ?_
      refine v_iald C i dX3_savesARoll_12 rfl rfl (by omega) (by decide) ?_
      refine v_aload_n C dX3_savesARoll_13 rfl ?_
      refine v_get C dX3_savesARoll_14 fl_X3_15 rfl rfl ?_
      refine v_iload_n C dX3_savesARoll_17 rfl ?_
      refine v_iald C i dX3_savesARoll_18 rfl rfl (by omega) (by decide) ?_
      by_cases hlt : pa i ≤ re i
      · refine v_icmp_le C 24 dX3_savesARoll_19 (by decide) (fun _ => ?_) (fun q => absurd (nI_le hlt (by omega)) q)
        refine v_iinc C dX3_savesARoll_24 rfl (nI_1 i) (by decide) ?_
        refine v_goto C 2 dX3_savesARoll_27 (by decide) ?_
        refine ih (i + 1) (by omega) (fun k hk => ?_)
        by_cases e : k = i
        · rw [e]; exact hlt
        · exact hle k (by omega)
      · refine v_icmp_le C 24 dX3_savesARoll_19 (by decide) (fun q => absurd q (nI_ge (Nat.not_le.mp hlt) (by omega))) (fun _ => ?_)
        refine v_iconst C (0) dX3_savesARoll_22 (by decide) ?_
        exact v_zret C E dX3_savesARoll_23 rfl ⟨Or.inr ⟨rfl, fun z => hlt (z.1 i (by omega))⟩, rfl⟩
  refine v_iconst C (0) dX3_savesARoll_0 (by decide) ?_
  refine v_istore_n C dX3_savesARoll_1 (by decide) ?_
  exact key 4 0 rfl (fun k hk => absurd hk (Nat.not_lt_zero k))
set_option maxHeartbeats 4000000 in
set_option maxRecDepth 100000 in
theorem c_take (i : Nat) (hi : i < 24) (hle : ∀ k, k < 4 → pa k ≤ re k) : Con yX3_take cX3_take 3 none d [.ref 6, .int (nI i)] (hC (jJ W n w q) (iN l) (pP sd cu re pa) N F tl) (fun r h' => r = none ∧ ∃ cu' re' : Nat → Nat, (∀ k, k < 4 → cu' (4 * i + k) = pa k ∧ re' k = re k - pa k) ∧ (∀ j, j < 4 * i → cu' j = cu j) ∧ h' = hC (jJ W n w q) (iN l) (pP sd cu' re' pa) N F tl) := by
  refine con_of [(0, .ref 6), (1, .int (nI i))] (by decide) (fun _ => Nat.le_of_ble_eq_true rfl) (fun _ => rfl) (fun X C E => ?_)
  have key : ∀ (m k : Nat) (cu' re' : Nat → Nat), k + m = 4 → (∀ j, j < k → cu' (4 * i + j) = pa j ∧ re' j = re j - pa j) → (∀ j, k ≤ j → re' j = re j) → (∀ j, j < 4 * i → cu' j = cu j) → V 3 X (hC (jJ W n w q) (iN l) (pP sd cu' re' pa) N F tl) 2 [(0, .ref 6), (1, .int (nI i)), (2, .int (nI k))] [] := by
    intro m
    induction m with
    | zero =>
      intro k cu' re' hk h1 h2 h3
      refine v_iload_n C dX3_take_2 rfl ?_
      refine v_iconst C (4) dX3_take_3 (by decide) ?_
      refine v_icmp_ge C 44 dX3_take_4 (by decide) (fun _ => ?_) (fun q => absurd (nI_le (a := 4) (by omega) (by omega)) q)
      exact v_vret C E dX3_take_44 ⟨rfl, cu', re', fun j hj => h1 j (by omega), h3, rfl⟩
    | succ m ih =>
      intro k cu' re' hk h1 h2 h3
      have hk4 : k < 4 := by omega
      have hp := hle k hk4
      refine v_iload_n C dX3_take_2 rfl ?_
      refine v_iconst C (4) dX3_take_3 (by decide) ?_
      refine v_icmp_ge C 44 dX3_take_4 (by decide) (fun q => absurd q (nI_ge (b := 4) (by omega) (by omega))) (fun _ => ?_)
      refine v_aload_n C dX3_take_7 rfl ?_
      refine v_get C dX3_take_8 fl_X3_9 rfl rfl ?_
      refine v_iload_n C dX3_take_11 rfl ?_
      refine v_iconst C (4) dX3_take_12 (by decide) ?_
      refine v_imul C dX3_take_13 ?_
      refine v_iload_n C dX3_take_14 rfl ?_
      refine v_iadd C dX3_take_15 ?_
      refine v_aload_n C dX3_take_16 rfl ?_
      refine v_get C dX3_take_17 fl_X3_18 rfl rfl ?_
      refine v_iload_n C dX3_take_20 rfl ?_
      refine v_iald C k dX3_take_21 rfl rfl hk4 (by decide) ?_
      refine v_iast C (4 * i + k) dX3_take_22 rfl ?_ (by omega) (by decide) ?_
      · show nI i * nI 4 + nI k = _
        rw [pk_mul, nI_add, Nat.mul_comm]
      refine v_aload_n C dX3_take_23 rfl ?_
      refine v_get C dX3_take_24 fl_X3_15 rfl rfl ?_
      refine v_iload_n C dX3_take_27 rfl ?_
      refine v_dup2_11 C dX3_take_28 rfl rfl ?_
      refine v_iald C k dX3_take_29 rfl rfl hk4 (by decide) ?_
      refine v_aload_n C dX3_take_30 rfl ?_
      refine v_get C dX3_take_31 fl_X3_18 rfl rfl ?_
      refine v_iload_n C dX3_take_34 rfl ?_
      refine v_iald C k dX3_take_35 rfl rfl hk4 (by decide) ?_
      refine v_isub C dX3_take_36 ?_
      refine v_iast C k dX3_take_37 rfl rfl hk4 (by decide) ?_
      refine v_iinc C dX3_take_38 rfl (nI_1 k) (by decide) ?_
      refine v_goto C 2 dX3_take_41 (by decide) ?_
      refine v_eq (ih (k + 1) (va_up cu' (4 * i + k) (pa k)) (va_up re' k (re' k - pa k)) (by omega) ?_ ?_ ?_) ?_ rfl rfl rfl
      · intro j hj
        unfold va_up
        by_cases e : j = k
        · subst e
          rw [if_pos rfl, if_pos rfl, h2 j (Nat.le_refl j)]
          exact ⟨rfl, rfl⟩
        · rw [if_neg (by omega), if_neg e]
          exact h1 j (by omega)
      · intro j hj
        unfold va_up
        rw [if_neg (by omega)]
        exact h2 j (by omega)
      · intro j hj
        unfold va_up
        rw [if_neg (by omega)]
        exact h3 j hj
      · show hC (jJ W n w q) (iN l) (sd, upd (iN cu') (4 * i + k) (nI (pa k)), upd (iN re') k (nI (re' k) - nI (pa k)), iN pa) N F tl = _
        rw [h2 k (Nat.le_refl k), pk_sub hp, upd_iN, upd_iN]
        rfl
  refine v_iconst C (0) dX3_take_0 (by decide) ?_
  refine v_istore_n C dX3_take_1 (by decide) ?_
  exact key 4 0 cu re rfl (fun k hk => absurd hk (Nat.not_lt_zero k)) (fun _ _ => rfl) (fun _ _ => rfl)
/-- stepOn, from kind k - 1 down -/
def soK (W n : Nat) (w re pa : Nat → Nat) : Nat → (Nat → Nat)
  | 0 => pa
  | k + 1 => if 0 < pa k then (ffI W w re (k + 1) (va_up pa k (pa k - 1)) n).1 else soK W n w re pa k
set_option maxHeartbeats 4000000 in
set_option maxRecDepth 100000 in
theorem c_stepOn (hn : n ≤ 4) (hW2 : W ≤ 60) (hw : ∀ k, k < n → 1 ≤ w k ∧ w k ≤ 60) (hre : ∀ k, k < 4 → re k ≤ 6) (hpa : ∀ k, k < 4 → pa k ≤ 6) (hfit : ∀ fi, fi < 4 → 0 < pa fi → ∀ k, k < fi + 1 → k < n → va_up pa fi (pa fi - 1) k * w k ≤ (ffI W w re (fi + 1) (va_up pa fi (pa fi - 1)) k).2) (hd : 2 ≤ d) : Con yX3_stepOn cX3_stepOn 2 none d [.ref 6] (hC (jJ W n w q) (iN l) (pP sd cu re pa) N F tl) (fun r h' => r = none ∧ h' = hC (jJ W n w q) (iN l) (pP sd cu re (soK W n w re pa 4)) N F tl) := by
  refine con_of [(0, .ref 6)] (by decide) (fun _ => Nat.le_of_ble_eq_true rfl) (fun _ => rfl) (fun X C E => ?_)
  have key : ∀ (k : Nat), k < 4 → soK W n w re pa 4 = soK W n w re pa (k + 1) → V 2 X (hC (jJ W n w q) (iN l) (pP sd cu re pa) N F tl) 2 [(0, .ref 6), (1, .int (nI k))] [] := by
    intro k
    induction k with
    | zero =>
      intro hk he
      refine v_iload_n C dX3_stepOn_2 rfl ?_
      refine v_if_lt C 39 dX3_stepOn_3 (by decide) (fun q => absurd q ((by decide))) (fun _ => ?_)
      refine v_aload_n C dX3_stepOn_6 rfl ?_
      refine v_get C dX3_stepOn_7 fl_X3_18 rfl rfl ?_
      refine v_iload_n C dX3_stepOn_10 rfl ?_
      refine v_iald C 0 dX3_stepOn_11 rfl rfl hk (by decide) ?_
      by_cases hp : 0 < pa 0
      · have h6 := hpa 0 hk
        refine v_if_le C 33 dX3_stepOn_12 (by decide) (fun q => absurd q (nI_nle hp (by omega))) (fun _ => ?_)
        refine v_aload_n C dX3_stepOn_15 rfl ?_
        refine v_get C dX3_stepOn_16 fl_X3_18 rfl rfl ?_
        refine v_iload_n C dX3_stepOn_19 rfl ?_
        refine v_dup2_11 C dX3_stepOn_20 rfl rfl ?_
        refine v_iald C 0 dX3_stepOn_21 rfl rfl hk (by decide) ?_
        refine v_iconst C (1) dX3_stepOn_22 (by decide) ?_
        refine v_isub C dX3_stepOn_23 ?_
        refine v_iast C 0 dX3_stepOn_24 rfl rfl hk (by decide) ?_
        refine v_eq (h' := hC (jJ W n w q) (iN l) (pP sd cu re (va_up pa 0 (pa 0 - 1))) N F tl) ?_ ?_
        · refine v_aload_n C dX3_stepOn_25 rfl ?_
          refine v_iload_n C dX3_stepOn_26 rfl ?_
          refine v_iconst C (1) dX3_stepOn_27 (by decide) ?_
          refine v_iadd C dX3_stepOn_28 ?_
          refine v_callV C dX3_stepOn_29 lk_X3_53 (c_fillFrom (d := 1) 1 hn (by decide) hW2 hw hre (hfit 0 hk hp) (by decide)) hd rfl rfl rfl rfl rfl (Nat.le_of_ble_eq_true rfl) ?_
          rintro r h' ⟨rfl, rfl⟩
          refine v_vret C E dX3_stepOn_32 ⟨rfl, ?_⟩
          rw [he, show soK W n w re pa (0 + 1) = _ from if_pos hp]
        · show hC (jJ W n w q) (iN l) (sd, iN cu, iN re, upd (iN pa) 0 (nI (pa 0) - nI 1)) N F tl = _
          rw [pk_sub hp, upd_iN]
          rfl
      · refine v_if_le C 33 dX3_stepOn_12 (by decide) (fun _ => ?_) (fun q => absurd ((by show nI (pa 0) ≤ nI 0; exact nI_le (Nat.not_lt.mp hp) (by decide))) q)
        refine v_iinc C dX3_stepOn_33 rfl rfl (by decide) ?_
        refine v_goto C 2 dX3_stepOn_36 (by decide) ?_
        refine v_iload_n C dX3_stepOn_2 rfl ?_
        refine v_if_lt C 39 dX3_stepOn_3 (by decide) (fun _ => ?_) (fun q => absurd ((by decide)) q)
        refine v_vret C E dX3_stepOn_39 ⟨rfl, ?_⟩
        rw [he, show soK W n w re pa (0 + 1) = _ from if_neg hp]
        rfl
    | succ k ih =>
      intro hk he
      refine v_iload_n C dX3_stepOn_2 rfl ?_
      refine v_if_lt C 39 dX3_stepOn_3 (by decide) (fun q => absurd q (nI_pos (by omega))) (fun _ => ?_)
      refine v_aload_n C dX3_stepOn_6 rfl ?_
      refine v_get C dX3_stepOn_7 fl_X3_18 rfl rfl ?_
      refine v_iload_n C dX3_stepOn_10 rfl ?_
      refine v_iald C (k + 1) dX3_stepOn_11 rfl rfl hk (by decide) ?_
      by_cases hp : 0 < pa (k + 1)
      · have h6 := hpa (k + 1) hk
        refine v_if_le C 33 dX3_stepOn_12 (by decide) (fun q => absurd q (nI_nle hp (by omega))) (fun _ => ?_)
        refine v_aload_n C dX3_stepOn_15 rfl ?_
        refine v_get C dX3_stepOn_16 fl_X3_18 rfl rfl ?_
        refine v_iload_n C dX3_stepOn_19 rfl ?_
        refine v_dup2_11 C dX3_stepOn_20 rfl rfl ?_
        refine v_iald C (k + 1) dX3_stepOn_21 rfl rfl hk (by decide) ?_
        refine v_iconst C (1) dX3_stepOn_22 (by decide) ?_
        refine v_isub C dX3_stepOn_23 ?_
        refine v_iast C (k + 1) dX3_stepOn_24 rfl rfl hk (by decide) ?_
        refine v_eq (h' := hC (jJ W n w q) (iN l) (pP sd cu re (va_up pa (k + 1) (pa (k + 1) - 1))) N F tl) ?_ ?_
        · refine v_aload_n C dX3_stepOn_25 rfl ?_
          refine v_iload_n C dX3_stepOn_26 rfl ?_
          refine v_iconst C (1) dX3_stepOn_27 (by decide) ?_
          refine v_iadd C dX3_stepOn_28 ?_
          refine v_callV C dX3_stepOn_29 lk_X3_53 (c_fillFrom (d := 1) (k + 1 + 1) hn (by omega) hW2 hw hre (hfit (k + 1) hk hp) (by decide)) hd rfl rfl rfl rfl (by show [Value.int (nI (k + 1) + nI 1), .ref 6] = _; rw [nI_add]; rfl) (Nat.le_of_ble_eq_true rfl) ?_
          rintro r h' ⟨rfl, rfl⟩
          refine v_vret C E dX3_stepOn_32 ⟨rfl, ?_⟩
          rw [he, show soK W n w re pa (k + 1 + 1) = _ from if_pos hp]
        · show hC (jJ W n w q) (iN l) (sd, iN cu, iN re, upd (iN pa) (k + 1) (nI (pa (k + 1)) - nI 1)) N F tl = _
          rw [pk_sub hp, upd_iN]
          rfl
      · refine v_if_le C 33 dX3_stepOn_12 (by decide) (fun _ => ?_) (fun q => absurd ((by show nI (pa (k + 1)) ≤ nI 0; exact nI_le (Nat.not_lt.mp hp) (by decide))) q)
        refine v_iinc C dX3_stepOn_33 rfl (pk_m1 k) (by decide) ?_
        refine v_goto C 2 dX3_stepOn_36 (by decide) ?_
        exact ih (by omega) (he.trans (if_neg hp))
  refine v_iconst C (3) dX3_stepOn_0 (by decide) ?_
  refine v_istore_n C dX3_stepOn_1 (by decide) ?_
  exact key 3 (by decide) rfl
end PLAN
