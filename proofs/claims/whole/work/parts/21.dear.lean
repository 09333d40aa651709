/-! the reference's most, dear -/
def mo (n : Nat) (w : Nat → Nat) (k room : Nat) : Nat := if k < n then room / w k else 0
theorem mo_mul {n : Nat} {w : Nat → Nat} {k room a : Nat} (h : a ≤ mo n w k room) : a * qn n w k ≤ room := by
  unfold mo at h
  unfold qn
  by_cases e : k < n
  · rw [if_pos e] at h ⊢
    exact Nat.le_trans (Nat.mul_le_mul_right _ h) (Nat.div_mul_le_self _ _)
  · rw [if_neg e, Nat.mul_zero]
    exact Nat.zero_le _
theorem mo_le {n : Nat} {w : Nat → Nat} {k room : Nat} : mo n w k room ≤ room := by
  unfold mo
  split
  · exact Nat.div_le_self _ _
  · exact Nat.zero_le _
def r1 (W n : Nat) (w : Nat → Nat) (a : Nat) : Nat := W - a * qn n w 0
def r2 (W n : Nat) (w : Nat → Nat) (a b : Nat) : Nat := r1 W n w a - b * qn n w 1
def r3 (W n : Nat) (w : Nat → Nat) (a b c : Nat) : Nat := r2 W n w a b - c * qn n w 2
def vp4 (W n : Nat) (w : Nat → Nat) (a b c : Nat) : Nat → Nat := v4 a b c (mo n w 3 (r3 W n w a b c))
def vl (wo : Nat → Int) (p : Nat → Nat) : Nat → Int
  | 0 => 0
  | k + 1 => vl wo p k + (p k : Int) * wo k
def db (W n : Nat) (w : Nat → Nat) (wo : Nat → Int) (a b c : Nat) (S : Int × (Nat → Nat)) : Int × (Nat → Nat) := if S.1 < vl wo (vp4 W n w a b c) 4 then (vl wo (vp4 W n w a b c) 4, vp4 W n w a b c) else S
def g3 (W n : Nat) (w : Nat → Nat) (wo : Nat → Int) (a b : Nat) (S : Int × (Nat → Nat)) : Int × (Nat → Nat) := fd (fun c S => db W n w wo a b c S) (mo n w 2 (r2 W n w a b) + 1) S
def g2 (W n : Nat) (w : Nat → Nat) (wo : Nat → Int) (a : Nat) (S : Int × (Nat → Nat)) : Int × (Nat → Nat) := fd (fun b S => g3 W n w wo a b S) (mo n w 1 (r1 W n w a) + 1) S
def g1 (W n : Nat) (w : Nat → Nat) (wo : Nat → Int) (S : Int × (Nat → Nat)) : Int × (Nat → Nat) := fd (fun a S => g2 W n w wo a S) (mo n w 0 W + 1) S
theorem fd_sm {f : Nat → Int × (Nat → Nat) → Int × (Nat → Nat)} {B : Int} : ∀ (M : Nat) (S : Int × (Nat → Nat)), Sm B S.1 → (∀ i S, i < M → Sm B S.1 → Sm B (f i S).1) → Sm B (fd f M S).1 := fun M S h hs => fd_inv (P := fun S => Sm B S.1) M S h hs
section DEAR
variable {c : Nat → PC} {W n : Nat} {w q : Nat → Nat} {Q : SQ} {D : Nat → Int32} {G : SG} {d : Nat}
set_option maxHeartbeats 4000000 in
set_option maxRecDepth 100000 in
theorem m_most (k room : Nat) (hk : k < 4) (hr : room ≤ 60) (hn : n ≤ 4) (hw : ∀ k, k < n → 1 ≤ w k ∧ w k ≤ 60) : Con yX6_most cX6_most 3 (some .int) d [.ref 22, .int (nI k), .int (nI room)] (hM c (jJ W n w q) Q D G) (fun r h' => r = some (.int (nI (mo n w k room))) ∧ h' = hM c (jJ W n w q) Q D G) := by
  refine con_of [(0, .ref 22), (1, .int (nI k)), (2, .int (nI room))] (by decide) (fun _ => Nat.le_of_ble_eq_true rfl) (fun _ => rfl) (fun X C E => ?_)
  refine v_iload_n C dX6_most_0 rfl ?_
  refine v_aload_n C dX6_most_1 rfl ?_
  refine v_get C dX6_most_2 fl_X6_52 rfl rfl ?_
  by_cases e : k < n
  · obtain ⟨w1, w2⟩ := hw k e
    refine v_icmp_ge C 19 dX6_most_5 (by decide) (fun q => absurd q (nI_ge e (by omega))) (fun _ => ?_)
    refine v_iload_n C dX6_most_8 rfl ?_
    refine v_aload_n C dX6_most_9 rfl ?_
    refine v_get C dX6_most_10 fl_X6_13 rfl rfl ?_
    refine v_iload_n C dX6_most_13 rfl ?_
    refine v_iald C k dX6_most_14 rfl rfl hk (by decide) ?_
    refine v_idiv C dX6_most_15 (nI_ne0 w1 (by omega)) ?_
    refine v_goto C 20 dX6_most_16 (by decide) ?_
    refine v_iret C E dX6_most_20 ⟨?_, rfl⟩
    show some (Value.int (nI room / nI (w k))) = _
    rw [nI_dv (by omega) w1 (by omega)]
    unfold mo
    rw [if_pos e]
  · refine v_icmp_ge C 19 dX6_most_5 (by decide) (fun _ => ?_) (fun q => absurd (nI_le (Nat.not_lt.mp e) (by omega)) q)
    refine v_iconst C (0) dX6_most_19 (by decide) ?_
    refine v_iret C E dX6_most_20 ⟨?_, rfl⟩
    unfold mo
    rw [if_neg e]
    rfl
set_option maxHeartbeats 8000000 in
set_option maxRecDepth 100000 in
theorem m_dear (wo : Nat → Int) (pi : Nat → Nat) (hn : n ≤ 4) (hW2 : W ≤ 60) (hw : ∀ k, k < n → 1 ≤ w k ∧ w k ≤ 60) (hwo : ∀ k, k < 4 → 0 ≤ wo k ∧ wo k ≤ 4503599627370496) (hD : ∀ k, k < 4 → D k = nI (pi k)) (hd : 1 ≤ d) : Con yX6_dear cX6_dear 19 (some .long) d [.ref 22, .long (lI (wo 0)), .long (lI (wo 1)), .long (lI (wo 2)), .long (lI (wo 3))] (hM c (jJ W n w q) Q D G) (fun r h' => r = some (.long (lI (g1 W n w wo (-1, pi)).1)) ∧ ∃ D', (∀ k, k < 4 → D' k = nI ((g1 W n w wo (-1, pi)).2 k)) ∧ h' = hM c (jJ W n w q) Q D' G) := by
  refine con_of [(0, .ref 22), (1, .long (lI (wo 0))), (3, .long (lI (wo 1))), (5, .long (lI (wo 2))), (7, .long (lI (wo 3)))] (by decide) (fun _ => Nat.le_of_ble_eq_true rfl) (fun _ => rfl) (fun X C E => ?_)
  have neg1 : (nI 0 + (-1) : Int32) < 0 := by decide
  have wqn : ∀ k, qn n w k ≤ 60 := fun k => by
    unfold qn
    split
    · rename_i e
      exact (hw k e).2
    · exact Nat.zero_le _
  have hr1 : ∀ a, r1 W n w a ≤ 60 := fun a => Nat.le_trans (Nat.sub_le _ _) hW2
  have hr2 : ∀ a b, r2 W n w a b ≤ 60 := fun a b => Nat.le_trans (Nat.sub_le _ _) (hr1 a)
  have hr3 : ∀ a b e, r3 W n w a b e ≤ 60 := fun a b e => Nat.le_trans (Nat.sub_le _ _) (hr2 a b)
  have hvl : ∀ a b e, a ≤ 60 → b ≤ 60 → e ≤ 60 → Sm 1152921504606846976 (vl wo (vp4 W n w a b e) 4) := by
    intro a b e ha hb he
    have h3 : mo n w 3 (r3 W n w a b e) ≤ 60 := Nat.le_trans mo_le (hr3 a b e)
    have m : ∀ (x : Nat) (y : Int), x ≤ 60 → 0 ≤ y ∧ y ≤ 4503599627370496 → 0 ≤ (x : Int) * y ∧ (x : Int) * y ≤ 60 * 4503599627370496 := fun x y hx hy => ⟨Int.mul_nonneg (by omega) hy.1, Int.mul_le_mul (by omega) hy.2 hy.1 (by decide)⟩
    have m0 := m a (wo 0) ha (hwo 0 (by omega))
    have m1 := m b (wo 1) hb (hwo 1 (by omega))
    have m2 := m e (wo 2) he (hwo 2 (by omega))
    have m3 := m (mo n w 3 (r3 W n w a b e)) (wo 3) h3 (hwo 3 (by omega))
    show Sm _ (0 + (a : Int) * wo 0 + (b : Int) * wo 1 + (e : Int) * wo 2 + ((mo n w 3 (r3 W n w a b e) : Nat) : Int) * wo 3)
    unfold Sm
    omega
  have s2 : ∀ z, Sm 1152921504606846976 z → Sm L62 z := fun z h => by unfold Sm L62 at *; omega
  have dsm : ∀ a b e S, a ≤ 60 → b ≤ 60 → e ≤ 60 → Sm 1152921504606846976 S.1 → Sm 1152921504606846976 (db W n w wo a b e S).1 := by
    intro a b e S ha hb he hS
    unfold db
    split
    · exact hvl a b e ha hb he
    · exact hS
  have g3sm : ∀ a b S, a ≤ 60 → b ≤ 60 → Sm 1152921504606846976 S.1 → Sm 1152921504606846976 (g3 W n w wo a b S).1 := fun a b S ha hb hS => fd_sm _ _ hS (fun i S hi h => dsm a b i S ha hb (by have := mo_le (n := n) (w := w) (k := 2) (room := r2 W n w a b); have := hr2 a b; omega) h)
  have g2sm : ∀ a S, a ≤ 60 → Sm 1152921504606846976 S.1 → Sm 1152921504606846976 (g2 W n w wo a S).1 := fun a S ha hS => fd_sm _ _ hS (fun i S hi h => g3sm a i S ha (by have := mo_le (n := n) (w := w) (k := 1) (room := r1 W n w a); have := hr1 a; omega) h)
  -- one pattern
  have body : ∀ (a b e : Nat) (S : Int × (Nat → Nat)) (D : Nat → Int32), a ≤ 60 → b ≤ 60 → e ≤ 60 → e ≤ mo n w 2 (r2 W n w a b) → Sm 1152921504606846976 S.1 → (∀ k, k < 4 → D k = nI (S.2 k)) →
      (∀ D', (∀ k, k < 4 → D' k = nI ((db W n w wo a b e S).2 k)) → V 19 X (hM c (jJ W n w q) Q D' G) 72 [(0, .ref 22), (1, .long (lI (wo 0))), (3, .long (lI (wo 1))), (5, .long (lI (wo 2))), (7, .long (lI (wo 3))), (9, .long (lI (db W n w wo a b e S).1)), (11, .int (nI a)), (12, .int (nI (r1 W n w a))), (13, .int (nI b)), (14, .int (nI (r2 W n w a b))), (15, .int (nI e + (-1)))] []) →
      V 19 X (hM c (jJ W n w q) Q D G) 77 [(0, .ref 22), (1, .long (lI (wo 0))), (3, .long (lI (wo 1))), (5, .long (lI (wo 2))), (7, .long (lI (wo 3))), (9, .long (lI S.1)), (11, .int (nI a)), (12, .int (nI (r1 W n w a))), (13, .int (nI b)), (14, .int (nI (r2 W n w a b))), (15, .int (nI e))] [] := by
    intro a b e S D ha hb he hem hS hD kk
    have hm2 := mo_mul hem
    have h3 : mo n w 3 (r3 W n w a b e) ≤ 60 := Nat.le_trans mo_le (hr3 a b e)
    have hv := hvl a b e ha hb he
    refine v_aload_n C dX6_dear_77 rfl ?_
    refine v_iconst C (3) dX6_dear_78 (by decide) ?_
    refine v_iload C dX6_dear_79 rfl ?_
    refine v_iload C dX6_dear_81 rfl ?_
    refine v_aload_n C dX6_dear_83 rfl ?_
    refine v_iconst C (2) dX6_dear_84 (by decide) ?_
    refine v_callV C dX6_dear_85 lk_X6_62 (m_widthOf (d := 0) 2 (by decide) hn) hd rfl rfl rfl rfl rfl (Nat.le_of_ble_eq_true rfl) ?_
    rintro r h' ⟨rfl, rfl⟩
    refine v_imul C dX6_dear_88 ?_
    refine v_isub C dX6_dear_89 ?_
    refine v_eq (st' := [.int (nI (r3 W n w a b e)), .int (nI 3), .ref 22]) ?_ rfl rfl rfl (by show [Value.int (nI (r2 W n w a b) - nI e * nI (qn n w 2)), .int 3, .ref 22] = _; rw [pk_mul, pk_sub hm2]; rfl)
    refine v_callV C dX6_dear_90 lk_X6_92 (m_most (d := 0) 3 (r3 W n w a b e) (by decide) (hr3 a b e) hn hw) hd rfl rfl rfl rfl rfl (Nat.le_of_ble_eq_true rfl) ?_
    rintro r h' ⟨rfl, rfl⟩
    refine v_istore C dX6_dear_93 (by decide) ?_
    refine v_iload C dX6_dear_95 rfl ?_
    refine v_i2l C dX6_dear_97 ?_
    refine v_lload_n C dX6_dear_98 rfl ?_
    refine v_lmul C dX6_dear_99 ?_
    refine v_iload C dX6_dear_100 rfl ?_
    refine v_i2l C dX6_dear_102 ?_
    refine v_lload_n C dX6_dear_103 rfl ?_
    refine v_lmul C dX6_dear_104 ?_
    refine v_ladd C dX6_dear_105 ?_
    refine v_iload C dX6_dear_106 rfl ?_
    refine v_i2l C dX6_dear_108 ?_
    refine v_lload C dX6_dear_109 rfl ?_
    refine v_lmul C dX6_dear_111 ?_
    refine v_ladd C dX6_dear_112 ?_
    refine v_iload C dX6_dear_113 rfl ?_
    refine v_i2l C dX6_dear_115 ?_
    refine v_lload C dX6_dear_116 rfl ?_
    refine v_lmul C dX6_dear_118 ?_
    refine v_ladd C dX6_dear_119 ?_
    refine v_eq (st' := [.long (lI (vl wo (vp4 W n w a b e) 4))]) ?_ rfl rfl rfl ?_
    case refine_2 =>
      show [Value.long ((nI a).toInt64 * lI (wo 0) + (nI b).toInt64 * lI (wo 1) + (nI e).toInt64 * lI (wo 2) + (nI (mo n w 3 (r3 W n w a b e))).toInt64 * lI (wo 3))] = _
      rw [nI_lI (by omega), nI_lI (by omega), nI_lI (by omega), nI_lI (by omega), lI_mul, lI_mul, lI_mul, lI_mul, lI_add, lI_add, lI_add]
      show _ = [Value.long (lI (0 + (a : Int) * wo 0 + (b : Int) * wo 1 + (e : Int) * wo 2 + ((mo n w 3 (r3 W n w a b e) : Nat) : Int) * wo 3))]
      rw [Int.zero_add]
    refine v_lstore C dX6_dear_120 (by decide) ?_
    refine v_lload C dX6_dear_122 rfl ?_
    refine v_lload C dX6_dear_124 rfl ?_
    refine v_lcmp C dX6_dear_126 ?_
    by_cases hlt : S.1 < vl wo (vp4 W n w a b e) 4
    · have hcmp : ¬ lg_cmp (lI (vl wo (vp4 W n w a b e) 4)) (lI S.1) ≤ 0 := by
        rw [lg_cmp_le, lI_le (s2 _ hv) (s2 _ hS)]
        omega
      refine v_if_le C 166 dX6_dear_127 (by decide) (fun q => absurd q (hcmp)) (fun _ => ?_)
      refine v_lload C dX6_dear_130 rfl ?_
      refine v_lstore C dX6_dear_132 (by decide) ?_
      refine v_aload_n C dX6_dear_134 rfl ?_
      refine v_get C dX6_dear_135 fl_X6_26 rfl rfl ?_
      refine v_iconst C (0) dX6_dear_138 (by decide) ?_
      refine v_iload C dX6_dear_139 rfl ?_
      refine v_iast C 0 dX6_dear_141 rfl rfl (by decide) (by decide) ?_
      refine v_aload_n C dX6_dear_142 rfl ?_
      refine v_get C dX6_dear_143 fl_X6_26 rfl rfl ?_
      refine v_iconst C (1) dX6_dear_146 (by decide) ?_
      refine v_iload C dX6_dear_147 rfl ?_
      refine v_iast C 1 dX6_dear_149 rfl rfl (by decide) (by decide) ?_
      refine v_aload_n C dX6_dear_150 rfl ?_
      refine v_get C dX6_dear_151 fl_X6_26 rfl rfl ?_
      refine v_iconst C (2) dX6_dear_154 (by decide) ?_
      refine v_iload C dX6_dear_155 rfl ?_
      refine v_iast C 2 dX6_dear_157 rfl rfl (by decide) (by decide) ?_
      refine v_aload_n C dX6_dear_158 rfl ?_
      refine v_get C dX6_dear_159 fl_X6_26 rfl rfl ?_
      refine v_iconst C (3) dX6_dear_162 (by decide) ?_
      refine v_iload C dX6_dear_163 rfl ?_
      refine v_iast C 3 dX6_dear_165 rfl rfl (by decide) (by decide) ?_
      refine v_iinc C dX6_dear_166 rfl rfl (by decide) ?_
      refine v_goto C 72 dX6_dear_169 (by decide) ?_
      have hdb : db W n w wo a b e S = (vl wo (vp4 W n w a b e) 4, vp4 W n w a b e) := if_pos hlt
      refine v_keep [0, 1, 3, 5, 7, 9, 11, 12, 13, 14, 15] ?_
      have := kk (upd (upd (upd (upd D 0 (nI a)) 1 (nI b)) 2 (nI e)) 3 (nI (mo n w 3 (r3 W n w a b e)))) (by rw [hdb]; exact all4 rfl rfl rfl rfl)
      rw [hdb] at this
      exact this
    · have hcmp : lg_cmp (lI (vl wo (vp4 W n w a b e) 4)) (lI S.1) ≤ 0 := by
        rw [lg_cmp_le, lI_le (s2 _ hv) (s2 _ hS)]
        omega
      refine v_if_le C 166 dX6_dear_127 (by decide) (fun _ => ?_) (fun q => absurd (hcmp) q)
      refine v_iinc C dX6_dear_166 rfl rfl (by decide) ?_
      refine v_goto C 72 dX6_dear_169 (by decide) ?_
      have hdb : db W n w wo a b e S = S := if_neg hlt
      refine v_keep [0, 1, 3, 5, 7, 9, 11, 12, 13, 14, 15] ?_
      have := kk D (by rw [hdb]; exact hD)
      rw [hdb] at this
      exact this
  have l3 : ∀ (m a b : Nat) (S : Int × (Nat → Nat)) (D : Nat → Int32), a ≤ 60 → b ≤ 60 → m ≤ mo n w 2 (r2 W n w a b) + 1 → Sm 1152921504606846976 S.1 → (∀ k, k < 4 → D k = nI (S.2 k)) →
      (∀ D', (∀ k, k < 4 → D' k = nI ((fd (fun c S => db W n w wo a b c S) m S).2 k)) → V 19 X (hM c (jJ W n w q) Q D' G) 172 [(0, .ref 22), (1, .long (lI (wo 0))), (3, .long (lI (wo 1))), (5, .long (lI (wo 2))), (7, .long (lI (wo 3))), (9, .long (lI (fd (fun c S => db W n w wo a b c S) m S).1)), (11, .int (nI a)), (12, .int (nI (r1 W n w a))), (13, .int (nI b))] []) →
      V 19 X (hM c (jJ W n w q) Q D G) 72 [(0, .ref 22), (1, .long (lI (wo 0))), (3, .long (lI (wo 1))), (5, .long (lI (wo 2))), (7, .long (lI (wo 3))), (9, .long (lI S.1)), (11, .int (nI a)), (12, .int (nI (r1 W n w a))), (13, .int (nI b)), (14, .int (nI (r2 W n w a b))), (15, .int (nI m + (-1)))] [] := by
    intro m
    induction m with
    | zero =>
      intro a b S D ha hb hm hS hD kk
      refine v_iload C dX6_dear_72 rfl ?_
      refine v_if_lt C 172 dX6_dear_74 (by decide) (fun _ => ?_) (fun q => absurd (neg1) q)
      exact v_keep [0, 1, 3, 5, 7, 9, 11, 12, 13] (kk D hD)
    | succ m ih =>
      intro a b S D ha hb hm hS hD kk
      have h60 : m ≤ 60 := by have := mo_le (n := n) (w := w) (k := 2) (room := r2 W n w a b); have := hr2 a b; omega
      rw [pk_m1]
      refine v_iload C dX6_dear_72 rfl ?_
      refine v_if_lt C 172 dX6_dear_74 (by decide) (fun q => absurd q (nI_pos (by omega))) (fun _ => ?_)
      exact body a b m S D ha hb h60 (by omega) hS hD (fun D' hD' => ih a b _ D' ha hb (by omega) (dsm a b m S ha hb h60 hS) hD' kk)
  have l2 : ∀ (m a : Nat) (S : Int × (Nat → Nat)) (D : Nat → Int32), a ≤ 60 → m ≤ mo n w 1 (r1 W n w a) + 1 → Sm 1152921504606846976 S.1 → (∀ k, k < 4 → D k = nI (S.2 k)) →
      (∀ D', (∀ k, k < 4 → D' k = nI ((fd (fun b S => g3 W n w wo a b S) m S).2 k)) → V 19 X (hM c (jJ W n w q) Q D' G) 178 [(0, .ref 22), (1, .long (lI (wo 0))), (3, .long (lI (wo 1))), (5, .long (lI (wo 2))), (7, .long (lI (wo 3))), (9, .long (lI (fd (fun b S => g3 W n w wo a b S) m S).1)), (11, .int (nI a))] []) →
      V 19 X (hM c (jJ W n w q) Q D G) 45 [(0, .ref 22), (1, .long (lI (wo 0))), (3, .long (lI (wo 1))), (5, .long (lI (wo 2))), (7, .long (lI (wo 3))), (9, .long (lI S.1)), (11, .int (nI a)), (12, .int (nI (r1 W n w a))), (13, .int (nI m + (-1)))] [] := by
    intro m
    induction m with
    | zero =>
      intro a S D ha hm hS hD kk
      refine v_iload C dX6_dear_45 rfl ?_
      refine v_if_lt C 178 dX6_dear_47 (by decide) (fun _ => ?_) (fun q => absurd (neg1) q)
      exact v_keep [0, 1, 3, 5, 7, 9, 11] (kk D hD)
    | succ m ih =>
      intro a S D ha hm hS hD kk
      have h60 : m ≤ 60 := by have := mo_le (n := n) (w := w) (k := 1) (room := r1 W n w a); have := hr1 a; omega
      have hmul := mo_mul (n := n) (w := w) (k := 1) (room := r1 W n w a) (a := m) (by omega)
      rw [pk_m1]
      refine v_iload C dX6_dear_45 rfl ?_
      refine v_if_lt C 178 dX6_dear_47 (by decide) (fun q => absurd q (nI_pos (by omega))) (fun _ => ?_)
      refine v_iload C dX6_dear_50 rfl ?_
      refine v_iload C dX6_dear_52 rfl ?_
      refine v_aload_n C dX6_dear_54 rfl ?_
      refine v_iconst C (1) dX6_dear_55 (by decide) ?_
      refine v_callV C dX6_dear_56 lk_X6_62 (m_widthOf (d := 0) 1 (by decide) hn) hd rfl rfl rfl rfl rfl (Nat.le_of_ble_eq_true rfl) ?_
      rintro r h' ⟨rfl, rfl⟩
      refine v_imul C dX6_dear_59 ?_
      refine v_isub C dX6_dear_60 ?_
      refine v_eq (st' := [.int (nI (r2 W n w a m))]) ?_ rfl rfl rfl (by show [Value.int (nI (r1 W n w a) - nI m * nI (qn n w 1))] = _; rw [pk_mul, pk_sub hmul]; rfl)
      refine v_istore C dX6_dear_61 (by decide) ?_
      refine v_aload_n C dX6_dear_63 rfl ?_
      refine v_iconst C (2) dX6_dear_64 (by decide) ?_
      refine v_iload C dX6_dear_65 rfl ?_
      refine v_callV C dX6_dear_67 lk_X6_92 (m_most (d := 0) 2 (r2 W n w a m) (by decide) (hr2 a m) hn hw) hd rfl rfl rfl rfl rfl (Nat.le_of_ble_eq_true rfl) ?_
      rintro r h' ⟨rfl, rfl⟩
      refine v_istore C dX6_dear_70 (by decide) ?_
      refine v_eq (l3 (mo n w 2 (r2 W n w a m) + 1) a m S D ha h60 (Nat.le_refl _) hS hD (fun D' hD' => ?_)) rfl rfl (by rw [pk_m1]; rfl) rfl
      refine v_iinc C dX6_dear_172 rfl rfl (by decide) ?_
      refine v_goto C 45 dX6_dear_175 (by decide) ?_
      exact ih a _ D' ha (by omega) (g3sm a m S ha h60 hS) hD' kk
  have l1 : ∀ (m : Nat) (S : Int × (Nat → Nat)) (D : Nat → Int32), m ≤ mo n w 0 W + 1 → Sm 1152921504606846976 S.1 → (∀ k, k < 4 → D k = nI (S.2 k)) →
      (∀ D', (∀ k, k < 4 → D' k = nI ((fd (fun a S => g2 W n w wo a S) m S).2 k)) → V 19 X (hM c (jJ W n w q) Q D' G) 184 [(0, .ref 22), (1, .long (lI (wo 0))), (3, .long (lI (wo 1))), (5, .long (lI (wo 2))), (7, .long (lI (wo 3))), (9, .long (lI (fd (fun a S => g2 W n w wo a S) m S).1))] []) →
      V 19 X (hM c (jJ W n w q) Q D G) 16 [(0, .ref 22), (1, .long (lI (wo 0))), (3, .long (lI (wo 1))), (5, .long (lI (wo 2))), (7, .long (lI (wo 3))), (9, .long (lI S.1)), (11, .int (nI m + (-1)))] [] := by
    intro m
    induction m with
    | zero =>
      intro S D hm hS hD kk
      refine v_iload C dX6_dear_16 rfl ?_
      refine v_if_lt C 184 dX6_dear_18 (by decide) (fun _ => ?_) (fun q => absurd (neg1) q)
      exact v_keep [0, 1, 3, 5, 7, 9] (kk D hD)
    | succ m ih =>
      intro S D hm hS hD kk
      have h60 : m ≤ 60 := by have := mo_le (n := n) (w := w) (k := 0) (room := W); omega
      have hmul := mo_mul (n := n) (w := w) (k := 0) (room := W) (a := m) (by omega)
      rw [pk_m1]
      refine v_iload C dX6_dear_16 rfl ?_
      refine v_if_lt C 184 dX6_dear_18 (by decide) (fun q => absurd q (nI_pos (by omega))) (fun _ => ?_)
      refine v_aload_n C dX6_dear_21 rfl ?_
      refine v_get C dX6_dear_22 fl_X6_7 rfl rfl ?_
      refine v_iload C dX6_dear_25 rfl ?_
      refine v_aload_n C dX6_dear_27 rfl ?_
      refine v_iconst C (0) dX6_dear_28 (by decide) ?_
      refine v_callV C dX6_dear_29 lk_X6_62 (m_widthOf (d := 0) 0 (by decide) hn) hd rfl rfl rfl rfl rfl (Nat.le_of_ble_eq_true rfl) ?_
      rintro r h' ⟨rfl, rfl⟩
      refine v_imul C dX6_dear_32 ?_
      refine v_isub C dX6_dear_33 ?_
      refine v_eq (st' := [.int (nI (r1 W n w m))]) ?_ rfl rfl rfl (by show [Value.int (nI W - nI m * nI (qn n w 0))] = _; rw [pk_mul, pk_sub hmul]; rfl)
      refine v_istore C dX6_dear_34 (by decide) ?_
      refine v_aload_n C dX6_dear_36 rfl ?_
      refine v_iconst C (1) dX6_dear_37 (by decide) ?_
      refine v_iload C dX6_dear_38 rfl ?_
      refine v_callV C dX6_dear_40 lk_X6_92 (m_most (d := 0) 1 (r1 W n w m) (by decide) (hr1 m) hn hw) hd rfl rfl rfl rfl rfl (Nat.le_of_ble_eq_true rfl) ?_
      rintro r h' ⟨rfl, rfl⟩
      refine v_istore C dX6_dear_43 (by decide) ?_
      refine v_eq (l2 (mo n w 1 (r1 W n w m) + 1) m S D h60 (Nat.le_refl _) hS hD (fun D' hD' => ?_)) rfl rfl (by rw [pk_m1]; rfl) rfl
      refine v_iinc C dX6_dear_178 rfl rfl (by decide) ?_
      refine v_goto C 16 dX6_dear_181 (by decide) ?_
      exact ih _ D' (by omega) (g2sm m S h60 hS) hD' kk
  refine v_ldc2 C (-1) dX6_dear_0 (by decide +kernel) ?_
  refine v_lstore C dX6_dear_3 (by decide) ?_
  refine v_aload_n C dX6_dear_5 rfl ?_
  refine v_iconst C (0) dX6_dear_6 (by decide) ?_
  refine v_aload_n C dX6_dear_7 rfl ?_
  refine v_get C dX6_dear_8 fl_X6_7 rfl rfl ?_
  refine v_callV C dX6_dear_11 lk_X6_92 (m_most (d := 0) 0 W (by decide) hW2 hn hw) hd rfl rfl rfl rfl rfl (Nat.le_of_ble_eq_true rfl) ?_
  rintro r h' ⟨rfl, rfl⟩
  refine v_istore C dX6_dear_14 (by decide) ?_
  refine v_eq (l1 (mo n w 0 W + 1) (-1, pi) D (Nat.le_refl _) (by show Sm 1152921504606846976 (-1); unfold Sm; decide) hD (fun D' hD' => ?_)) rfl rfl (by rw [pk_m1]; rfl) rfl
  refine v_lload C dX6_dear_184 rfl ?_
  exact v_lret C E dX6_dear_186 ⟨rfl, D', hD', rfl⟩
end DEAR
