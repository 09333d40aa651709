/-! the reference's rows and determinants -/
def gG (ik : Int32) (tp bt : Int64) (rw : Nat → Int32) (rc : Nat) (ch : Nat → Int32) (co : Nat → Int64) (un : Int64) (bc : Nat → Int64) (bu bm : Int64) (wk : Nat → Int64) : SG := (ik, tp, bt, rw, nI rc, ch, co, un, bc, bu, bm, wk)
def sI (z : Int) : Int32 := Int32.ofInt z
theorem sI_L {z : Int} (h1 : -100 ≤ z) (h2 : z ≤ 100) : (sI z).toInt64 = lI z := by
  apply Int64.toInt_inj.mp
  rw [lI_to (by omega) (by omega), Int32.toInt_toInt64]
  exact Int32.toInt_ofInt_of_le (by omega) (by omega)
theorem sI_n (k : Nat) : sI (k : Int) = nI k := by
  show Int32.ofInt (k : Int) = nI k
  exact Int32.ofInt_eq_ofNat
def RW (rw : Nat → Int32) (rc : Nat) (A : Nat → Nat → Int) : Prop := ∀ r, r < rc → ∀ j, j < 5 → rw (5 * r + j) = sI (A r j) ∧ -1 ≤ A r j ∧ A r j ≤ 60
section ROWS
variable {c : Nat → PC} {W n : Nat} {w q : Nat → Nat} {Q : SQ} {D : Nat → Int32} {d : Nat} {M : SM}
variable {ik : Int32} {tp bt : Int64} {rw : Nat → Int32} {rc : Nat} {ch : Nat → Int32} {co : Nat → Int64} {un : Int64} {bc : Nat → Int64} {bu bm : Int64} {wk : Nat → Int64}
set_option maxHeartbeats 8000000 in
set_option maxRecDepth 100000 in
theorem m_row (v : Nat → Int32) (hrc : rc < 200) : Con yX6_row cX6_row 7 none d [.ref 22, .int (v 0), .int (v 1), .int (v 2), .int (v 3), .int (v 4)] (hM c M Q D (gG ik tp bt rw rc ch co un bc bu bm wk)) (fun r h' => r = none ∧ ∃ rw', (∀ j, j < 5 → rw' (5 * rc + j) = v j) ∧ (∀ i, i < 5 * rc → rw' i = rw i) ∧ h' = hM c M Q D (gG ik tp bt rw' (rc + 1) ch co un bc bu bm wk)) := by
  refine con_of [(0, .ref 22), (1, .int (v 0)), (2, .int (v 1)), (3, .int (v 2)), (4, .int (v 3)), (5, .int (v 4))] (by decide) (fun _ => Nat.le_of_ble_eq_true rfl) (fun _ => rfl) (fun X C E => ?_)
  have e0 : nI 5 * nI rc = nI (5 * rc) := pk_mul 5 rc
  have ej : ∀ j, nI 5 * nI rc + nI j = nI (5 * rc + j) := fun j => by rw [e0, nI_add]
  refine v_iconst C (5) dX6_row_0 (by decide) ?_
  refine v_aload_n C dX6_row_1 rfl ?_
  refine v_get C dX6_row_2 fl_X6_100 rfl rfl ?_
  refine v_imul C dX6_row_5 ?_
  refine v_istore C dX6_row_6 (by decide) ?_
  refine v_aload_n C dX6_row_8 rfl ?_
  refine v_get C dX6_row_9 fl_X6_29 rfl rfl ?_
  refine v_iload C dX6_row_12 rfl ?_
  refine v_iload_n C dX6_row_14 rfl ?_
  refine v_iast C (5 * rc) dX6_row_15 rfl e0 (by omega) (by decide) ?_
  refine v_aload_n C dX6_row_16 rfl ?_
  refine v_get C dX6_row_17 fl_X6_29 rfl rfl ?_
  refine v_iload C dX6_row_20 rfl ?_
  refine v_iconst C (1) dX6_row_22 (by decide) ?_
  refine v_iadd C dX6_row_23 ?_
  refine v_iload_n C dX6_row_24 rfl ?_
  refine v_iast C (5 * rc + 1) dX6_row_25 rfl (ej 1) (by omega) (by decide) ?_
  refine v_aload_n C dX6_row_26 rfl ?_
  refine v_get C dX6_row_27 fl_X6_29 rfl rfl ?_
  refine v_iload C dX6_row_30 rfl ?_
  refine v_iconst C (2) dX6_row_32 (by decide) ?_
  refine v_iadd C dX6_row_33 ?_
  refine v_iload_n C dX6_row_34 rfl ?_
  refine v_iast C (5 * rc + 2) dX6_row_35 rfl (ej 2) (by omega) (by decide) ?_
  refine v_aload_n C dX6_row_36 rfl ?_
  refine v_get C dX6_row_37 fl_X6_29 rfl rfl ?_
  refine v_iload C dX6_row_40 rfl ?_
  refine v_iconst C (3) dX6_row_42 (by decide) ?_
  refine v_iadd C dX6_row_43 ?_
  refine v_iload C dX6_row_44 rfl ?_
  refine v_iast C (5 * rc + 3) dX6_row_46 rfl (ej 3) (by omega) (by decide) ?_
  refine v_aload_n C dX6_row_47 rfl ?_
  refine v_get C dX6_row_48 fl_X6_29 rfl rfl ?_
  refine v_iload C dX6_row_51 rfl ?_
  refine v_iconst C (4) dX6_row_53 (by decide) ?_
  refine v_iadd C dX6_row_54 ?_
  refine v_iload C dX6_row_55 rfl ?_
  refine v_iast C (5 * rc + 4) dX6_row_57 rfl (ej 4) (by omega) (by decide) ?_
  refine v_aload_n C dX6_row_58 rfl ?_
  refine v_dup C dX6_row_59 rfl ?_
  refine v_get C dX6_row_60 fl_X6_100 rfl rfl ?_
  refine v_iconst C (1) dX6_row_63 (by decide) ?_
  refine v_iadd C dX6_row_64 ?_
  refine v_put C dX6_row_65 fp_X6_100 rfl (fun _ => rfl) (fun _ => rfl) (Nat.le_of_ble_eq_true rfl) ?_
  refine v_vret C E dX6_row_68 ⟨rfl, upd (upd (upd (upd (upd rw (5 * rc) (v 0)) (5 * rc + 1) (v 1)) (5 * rc + 2) (v 2)) (5 * rc + 3) (v 3)) (5 * rc + 4) (v 4), ?_, ?_, ?_⟩
  · intro j hj
    unfold upd
    match j, hj with
    | 0, _ => simp
    | 1, _ => simp
    | 2, _ => simp
    | 3, _ => simp
    | 4, _ => simp
  · intro i hi
    unfold upd
    rw [if_neg (by omega), if_neg (by omega), if_neg (by omega), if_neg (by omega), if_neg (by omega)]
  · show hM c M Q D (ik, tp, bt, upd (upd (upd (upd (upd rw (5 * rc) (v 0)) (5 * rc + 1) (v 1)) (5 * rc + 2) (v 2)) (5 * rc + 3) (v 3)) (5 * rc + 4) (v 4), nI rc + nI 1, ch, co, un, bc, bu, bm, wk) = _
    rw [nI_add]
    rfl
theorem laplace (m : Nat → Nat → Int) : (m 0 0 * m 1 1 - m 0 1 * m 1 0) * (m 2 2 * m 3 3 - m 2 3 * m 3 2) + -(m 0 0 * m 1 2 - m 0 2 * m 1 0) * (m 2 1 * m 3 3 - m 2 3 * m 3 1) + (m 0 0 * m 1 3 - m 0 3 * m 1 0) * (m 2 1 * m 3 2 - m 2 2 * m 3 1) + (m 0 1 * m 1 2 - m 0 2 * m 1 1) * (m 2 0 * m 3 3 - m 2 3 * m 3 0) + -(m 0 1 * m 1 3 - m 0 3 * m 1 1) * (m 2 0 * m 3 2 - m 2 2 * m 3 0) + (m 0 2 * m 1 3 - m 0 3 * m 1 2) * (m 2 0 * m 3 1 - m 2 1 * m 3 0) = Det4 m := by
  simp only [Det4, dot4, X4, d3]
  grind
set_option maxHeartbeats 8000000 in
set_option maxRecDepth 100000 in
theorem m_determinant (A : Nat → Nat → Int) (f : Nat → Nat) (cI : Int32) (cc : Nat) (hcc : ∀ j, j < 4 → (nI j = cI ↔ j = cc)) (hrc : rc ≤ 200) (hR : RW rw rc A) (hf : ∀ i, i < 4 → ch i = nI (f i) ∧ f i < rc) : Con yX6_determinant cX6_determinant 12 (some .long) d [.ref 22, .int cI] (hM c M Q D (gG ik tp bt rw rc ch co un bc bu bm wk)) (fun r h' => r = some (.long (lI (Det4 (fun i j => A (f i) (if j = cc then 4 else j))))) ∧ ∃ wk', h' = hM c M Q D (gG ik tp bt rw rc ch co un bc bu bm wk')) := by
  refine con_of [(0, .ref 22), (1, .int cI)] (by decide) (fun _ => Nat.le_of_ble_eq_true rfl) (fun _ => rfl) (fun X C E => ?_)
  generalize hm : (fun i j => A (f i) (if j = cc then 4 else j)) = m
  -- the expansion
  have fin : ∀ (wk : Nat → Int64), (∀ i j, i < 4 → j < 4 → wk (4 * i + j) = lI (m i j)) → V 12 X (hM c M Q D (gG ik tp bt rw rc ch co un bc bu bm wk)) 61 [(0, .ref 22), (1, .int cI)] [] := by
    intro wk hw
    have k0 : ∀ i, i < 4 → wk i = lI (m 0 i) := fun i hi => by have := hw 0 i (by decide) hi; rw [show 4 * 0 + i = i by omega] at this; exact this
    have k1 : ∀ i, i < 4 → wk (4 + i) = lI (m 1 i) := fun i hi => hw 1 i (by decide) hi
    have k2 : ∀ i, i < 4 → wk (8 + i) = lI (m 2 i) := fun i hi => hw 2 i (by decide) hi
    have k3 : ∀ i, i < 4 → wk (12 + i) = lI (m 3 i) := fun i hi => hw 3 i (by decide) hi
    have body : ∀ (i j k l : Nat) (s : Int64), i < 4 → j < 4 → k < 4 → l < 4 → nI 6 - nI i - nI j - nI k = nI l → ((0 < i ∧ k = 0) ∨ (i = 0 ∧ 1 < j ∧ k = 1) ∨ (i = 0 ∧ j ≤ 1 ∧ k = 2)) → V 12 X (hM c M Q D (gG ik tp bt rw rc ch co un bc bu bm wk)) 78 [(0, .ref 22), (1, .int cI), (2, .long (s + (if (i + j) % 2 = 1 then lI ((m 0 i * m 1 j - m 0 j * m 1 i) * (m 2 k * m 3 l - m 2 l * m 3 k)) else lI (-(m 0 i * m 1 j - m 0 j * m 1 i) * (m 2 k * m 3 l - m 2 l * m 3 k))))), (4, .int (nI i)), (5, .int (nI (j + 1)))] [] → V 12 X (hM c M Q D (gG ik tp bt rw rc ch co un bc bu bm wk)) 78 [(0, .ref 22), (1, .int cI), (2, .long s), (4, .int (nI i)), (5, .int (nI j))] [] := by
      intro i j k l s hi hj hk hl hsub hsel kk
      refine v_iload C dX6_determinant_78 rfl ?_
      refine v_iconst C (4) dX6_determinant_80 (by decide) ?_
      refine v_icmp_ge C 235 dX6_determinant_81 (by decide) (fun q => absurd q (nI_ge (b := 4) hj (by omega))) (fun _ => ?_)
      refine v_iload C dX6_determinant_84 rfl ?_
      have rest : V 12 X (hM c M Q D (gG ik tp bt rw rc ch co un bc bu bm wk)) 104 [(0, .ref 22), (1, .int cI), (2, .long s), (4, .int (nI i)), (5, .int (nI j))] [.int (nI k)] := by
        refine v_istore C dX6_determinant_104 (by decide) ?_
        refine v_bipush C (6) dX6_determinant_106 (by decide) ?_
        refine v_iload C dX6_determinant_108 rfl ?_
        refine v_isub C dX6_determinant_110 ?_
        refine v_iload C dX6_determinant_111 rfl ?_
        refine v_isub C dX6_determinant_113 ?_
        refine v_iload C dX6_determinant_114 rfl ?_
        refine v_isub C dX6_determinant_116 ?_
        refine v_eq (st' := [.int (nI l)]) ?_ rfl rfl rfl (congrArg (fun z => [Value.int z]) hsub)
        refine v_istore C dX6_determinant_117 (by decide) ?_
        refine v_aload_n C dX6_determinant_119 rfl ?_
        refine v_get C dX6_determinant_120 fl_X6_42 rfl rfl ?_
        refine v_iload C dX6_determinant_123 rfl ?_
        refine v_lald C i dX6_determinant_125 rfl rfl (by omega) (by decide) ?_
        refine v_aload_n C dX6_determinant_126 rfl ?_
        refine v_get C dX6_determinant_127 fl_X6_42 rfl rfl ?_
        refine v_iconst C (4) dX6_determinant_130 (by decide) ?_
        refine v_iload C dX6_determinant_131 rfl ?_
        refine v_iadd C dX6_determinant_133 ?_
        refine v_lald C (4 + j) dX6_determinant_134 rfl (nI_add 4 j) (by omega) (by decide) ?_
        refine v_lmul C dX6_determinant_135 ?_
        refine v_aload_n C dX6_determinant_136 rfl ?_
        refine v_get C dX6_determinant_137 fl_X6_42 rfl rfl ?_
        refine v_iload C dX6_determinant_140 rfl ?_
        refine v_lald C j dX6_determinant_142 rfl rfl (by omega) (by decide) ?_
        refine v_aload_n C dX6_determinant_143 rfl ?_
        refine v_get C dX6_determinant_144 fl_X6_42 rfl rfl ?_
        refine v_iconst C (4) dX6_determinant_147 (by decide) ?_
        refine v_iload C dX6_determinant_148 rfl ?_
        refine v_iadd C dX6_determinant_150 ?_
        refine v_lald C (4 + i) dX6_determinant_151 rfl (nI_add 4 i) (by omega) (by decide) ?_
        refine v_lmul C dX6_determinant_152 ?_
        refine v_lsub C dX6_determinant_153 ?_
        refine v_lstore C dX6_determinant_154 (by decide) ?_
        refine v_aload_n C dX6_determinant_156 rfl ?_
        refine v_get C dX6_determinant_157 fl_X6_42 rfl rfl ?_
        refine v_bipush C (8) dX6_determinant_160 (by decide) ?_
        refine v_iload C dX6_determinant_162 rfl ?_
        refine v_iadd C dX6_determinant_164 ?_
        refine v_lald C (8 + k) dX6_determinant_165 rfl (nI_add 8 k) (by omega) (by decide) ?_
        refine v_aload_n C dX6_determinant_166 rfl ?_
        refine v_get C dX6_determinant_167 fl_X6_42 rfl rfl ?_
        refine v_bipush C (12) dX6_determinant_170 (by decide) ?_
        refine v_iload C dX6_determinant_172 rfl ?_
        refine v_iadd C dX6_determinant_174 ?_
        refine v_lald C (12 + l) dX6_determinant_175 rfl (nI_add 12 l) (by omega) (by decide) ?_
        refine v_lmul C dX6_determinant_176 ?_
        refine v_aload_n C dX6_determinant_177 rfl ?_
        refine v_get C dX6_determinant_178 fl_X6_42 rfl rfl ?_
        refine v_bipush C (8) dX6_determinant_181 (by decide) ?_
        refine v_iload C dX6_determinant_183 rfl ?_
        refine v_iadd C dX6_determinant_185 ?_
        refine v_lald C (8 + l) dX6_determinant_186 rfl (nI_add 8 l) (by omega) (by decide) ?_
        refine v_aload_n C dX6_determinant_187 rfl ?_
        refine v_get C dX6_determinant_188 fl_X6_42 rfl rfl ?_
        refine v_bipush C (12) dX6_determinant_191 (by decide) ?_
        refine v_iload C dX6_determinant_193 rfl ?_
        refine v_iadd C dX6_determinant_195 ?_
        refine v_lald C (12 + k) dX6_determinant_196 rfl (nI_add 12 k) (by omega) (by decide) ?_
        refine v_lmul C dX6_determinant_197 ?_
        refine v_lsub C dX6_determinant_198 ?_
        refine v_lstore C dX6_determinant_199 (by decide) ?_
        refine v_lload_n C dX6_determinant_201 rfl ?_
        refine v_iload C dX6_determinant_202 rfl ?_
        refine v_iload C dX6_determinant_204 rfl ?_
        refine v_iadd C dX6_determinant_206 ?_
        refine v_iconst C (2) dX6_determinant_207 (by decide) ?_
        have ep : nI i + nI j - (nI i + nI j) / nI 2 * nI 2 = nI ((i + j) % 2) := by
          rw [nI_add]
          exact nI_rm (by omega) (by decide) (by decide)
        have hU : wk i * wk (4 + j) - wk j * wk (4 + i) = lI (m 0 i * m 1 j - m 0 j * m 1 i) := by
          rw [k0 i hi, k0 j hj, k1 i hi, k1 j hj, lI_mul, lI_mul, lI_sub]
        have hL : wk (8 + k) * wk (12 + l) - wk (8 + l) * wk (12 + k) = lI (m 2 k * m 3 l - m 2 l * m 3 k) := by
          rw [k2 k hk, k2 l hl, k3 k hk, k3 l hl, lI_mul, lI_mul, lI_sub]
        refine v_irem C dX6_determinant_208 (by decide) ?_
        refine v_eq (lv' := [(0, .ref 22), (1, .int cI), (2, .long s), (4, .int (nI i)), (5, .int (nI j)), (6, .int (nI k)), (7, .int (nI l)), (8, .long (lI (m 0 i * m 1 j - m 0 j * m 1 i))), (10, .long (lI (m 2 k * m 3 l - m 2 l * m 3 k)))]) (st' := [.int (nI ((i + j) % 2)), .long s]) ?_ rfl rfl (by rw [← hU, ← hL]; rfl) (congrArg (fun z => [Value.int z, .long s]) ep)
        refine v_iconst C (1) dX6_determinant_209 (by decide) ?_
        by_cases par : (i + j) % 2 = 1
        · refine v_icmp_ne C 221 dX6_determinant_210 (by decide) (fun q => absurd q ((by rw [par]; exact fun z => z rfl))) (fun _ => ?_)
          refine v_lload C dX6_determinant_213 rfl ?_
          refine v_lload C dX6_determinant_215 rfl ?_
          refine v_lmul C dX6_determinant_217 ?_
          refine v_goto C 227 dX6_determinant_218 (by decide) ?_
          refine v_ladd C dX6_determinant_227 ?_
          refine v_lstore_n C dX6_determinant_228 (by decide) ?_
          refine v_iinc C dX6_determinant_229 rfl (nI_1 j) (by decide) ?_
          refine v_goto C 78 dX6_determinant_232 (by decide) ?_
          refine v_keep [0, 1, 2, 4, 5] (v_eq kk rfl rfl ?_ rfl)
          rw [if_pos par, ← lI_mul]
          rfl
        · refine v_icmp_ne C 221 dX6_determinant_210 (by decide) (fun _ => ?_) (fun q => absurd q ((by rw [show (i + j) % 2 = 0 by omega]; decide)))
          refine v_lload C dX6_determinant_221 rfl ?_
          refine v_lneg C dX6_determinant_223 ?_
          refine v_lload C dX6_determinant_224 rfl ?_
          refine v_lmul C dX6_determinant_226 ?_
          refine v_ladd C dX6_determinant_227 ?_
          refine v_lstore_n C dX6_determinant_228 (by decide) ?_
          refine v_iinc C dX6_determinant_229 rfl (nI_1 j) (by decide) ?_
          refine v_goto C 78 dX6_determinant_232 (by decide) ?_
          refine v_keep [0, 1, 2, 4, 5] (v_eq kk rfl rfl ?_ rfl)
          rw [if_neg par, ← lI_mul, ← lI_neg]
          rfl
      rcases hsel with ⟨a, rfl⟩ | ⟨rfl, a, rfl⟩ | ⟨rfl, a, rfl⟩
      · refine v_if_le C 93 dX6_determinant_86 (by decide) (fun z => absurd z ?_) (fun _ => ?_)
        · exact nI_nle a (by omega)
        refine v_iconst C (0) dX6_determinant_89 (by decide) ?_
        refine v_goto C 104 dX6_determinant_90 (by decide) ?_
        exact rest
      · refine v_if_le C 93 dX6_determinant_86 (by decide) (fun _ => ?_) (fun z => absurd (by decide) z)
        refine v_iload C dX6_determinant_93 rfl ?_
        refine v_iconst C (1) dX6_determinant_95 (by decide) ?_
        refine v_icmp_le C 103 dX6_determinant_96 (by decide) (fun z => absurd z (nI_ge (a := 1) (b := j) a (by omega))) (fun _ => ?_)
        refine v_iconst C (1) dX6_determinant_99 (by decide) ?_
        refine v_goto C 104 dX6_determinant_100 (by decide) ?_
        exact rest
      · refine v_if_le C 93 dX6_determinant_86 (by decide) (fun _ => ?_) (fun z => absurd (by decide) z)
        refine v_iload C dX6_determinant_93 rfl ?_
        refine v_iconst C (1) dX6_determinant_95 (by decide) ?_
        refine v_icmp_le C 103 dX6_determinant_96 (by decide) (fun _ => ?_) (fun z => absurd (nI_le (a := j) (b := 1) a (by decide)) z)
        refine v_iconst C (2) dX6_determinant_103 (by decide) ?_
        exact rest
    have down : ∀ (i : Nat) (s : Int64), i < 4 → V 12 X (hM c M Q D (gG ik tp bt rw rc ch co un bc bu bm wk)) 78 [(0, .ref 22), (1, .int cI), (2, .long s), (4, .int (nI i)), (5, .int (nI (i + 1)))] [] → V 12 X (hM c M Q D (gG ik tp bt rw rc ch co un bc bu bm wk)) 66 [(0, .ref 22), (1, .int cI), (2, .long s), (4, .int (nI i))] [] := by
      intro i s hi kk
      refine v_iload C dX6_determinant_66 rfl ?_
      refine v_iconst C (4) dX6_determinant_68 (by decide) ?_
      refine v_icmp_ge C 241 dX6_determinant_69 (by decide) (fun q => absurd q (nI_ge (b := 4) hi (by omega))) (fun _ => ?_)
      refine v_iload C dX6_determinant_72 rfl ?_
      refine v_iconst C (1) dX6_determinant_74 (by decide) ?_
      refine v_iadd C dX6_determinant_75 ?_
      refine v_istore C dX6_determinant_76 (by decide) ?_
      exact v_eq kk rfl rfl (by rw [← nI_1 i]; rfl) rfl
    have up : ∀ (i : Nat) (s : Int64), i < 4 → V 12 X (hM c M Q D (gG ik tp bt rw rc ch co un bc bu bm wk)) 66 [(0, .ref 22), (1, .int cI), (2, .long s), (4, .int (nI (i + 1)))] [] → V 12 X (hM c M Q D (gG ik tp bt rw rc ch co un bc bu bm wk)) 78 [(0, .ref 22), (1, .int cI), (2, .long s), (4, .int (nI i)), (5, .int (nI 4))] [] := by
      intro i s hi kk
      refine v_iload C dX6_determinant_78 rfl ?_
      refine v_iconst C (4) dX6_determinant_80 (by decide) ?_
      refine v_icmp_ge C 235 dX6_determinant_81 (by decide) (fun _ => ?_) (fun q => absurd (nI_le (a := 4) (b := 4) (by decide) (by decide)) q)
      refine v_iinc C dX6_determinant_235 rfl (nI_1 i) (by decide) ?_
      refine v_goto C 66 dX6_determinant_238 (by decide) ?_
      exact v_keep [0, 1, 2, 4] kk
    refine v_lconst C (0) dX6_determinant_61 (by decide) ?_
    refine v_lstore_n C dX6_determinant_62 (by decide) ?_
    refine v_iconst C (0) dX6_determinant_63 (by decide) ?_
    refine v_istore C dX6_determinant_64 (by decide) ?_
    refine down 0 _ (by decide) ?_
    refine body 0 1 2 3 _ (by decide) (by decide) (by decide) (by decide) (by decide) (Or.inr (Or.inr ⟨rfl, by decide, rfl⟩)) ?_
    refine body 0 2 1 3 _ (by decide) (by decide) (by decide) (by decide) (by decide) (Or.inr (Or.inl ⟨rfl, by decide, rfl⟩)) ?_
    refine body 0 3 1 2 _ (by decide) (by decide) (by decide) (by decide) (by decide) (Or.inr (Or.inl ⟨rfl, by decide, rfl⟩)) ?_
    refine up 0 _ (by decide) ?_
    refine down 1 _ (by decide) ?_
    refine body 1 2 0 3 _ (by decide) (by decide) (by decide) (by decide) (by decide) (Or.inl ⟨by decide, rfl⟩) ?_
    refine body 1 3 0 2 _ (by decide) (by decide) (by decide) (by decide) (by decide) (Or.inl ⟨by decide, rfl⟩) ?_
    refine up 1 _ (by decide) ?_
    refine down 2 _ (by decide) ?_
    refine body 2 3 0 1 _ (by decide) (by decide) (by decide) (by decide) (by decide) (Or.inl ⟨by decide, rfl⟩) ?_
    refine up 2 _ (by decide) ?_
    refine down 3 _ (by decide) ?_
    refine up 3 _ (by decide) ?_
    refine v_iload C dX6_determinant_66 rfl ?_
    refine v_iconst C (4) dX6_determinant_68 (by decide) ?_
    refine v_icmp_ge C 241 dX6_determinant_69 (by decide) (fun _ => ?_) (fun q => absurd (nI_le (a := 4) (b := 4) (by decide) (by decide)) q)
    refine v_lload_n C dX6_determinant_241 rfl ?_
    refine v_lret C E dX6_determinant_242 ⟨?_, wk, rfl⟩
    rw [hm, ← laplace m, if_pos (by decide), if_neg (by decide), if_pos (by decide), if_pos (by decide), if_neg (by decide), if_pos (by decide)]
    rw [show (0 : Int64) = lI 0 from rfl, lI_add, lI_add, lI_add, lI_add, lI_add, lI_add, Int.zero_add]
  -- the copy
  have rows : ∀ (p i : Nat) (wk : Nat → Int64), i + p = 4 → (∀ i' j, i' < i → j < 4 → wk (4 * i' + j) = lI (m i' j)) → V 12 X (hM c M Q D (gG ik tp bt rw rc ch co un bc bu bm wk)) 2 [(0, .ref 22), (1, .int cI), (2, .int (nI i))] [] := by
    intro p
    induction p with
    | zero =>
      intro i wk hi h1
      obtain rfl : i = 4 := by omega
      refine v_iload_n C dX6_determinant_2 rfl ?_
      refine v_iconst C (4) dX6_determinant_3 (by decide) ?_
      refine v_icmp_ge C 61 dX6_determinant_4 (by decide) (fun _ => ?_) (fun q => absurd (nI_le (a := 4) (b := 4) (by decide) (by decide)) q)
      exact v_keep [0, 1] (fin wk (fun i j a b => h1 i j a b))
    | succ p ih =>
      intro i wk hi h1
      have hi4 : i < 4 := by omega
      have cols : ∀ (p' j : Nat) (wk : Nat → Int64), j + p' = 4 → (∀ i' j, i' < i → j < 4 → wk (4 * i' + j) = lI (m i' j)) → (∀ j', j' < j → wk (4 * i + j') = lI (m i j')) → V 12 X (hM c M Q D (gG ik tp bt rw rc ch co un bc bu bm wk)) 9 [(0, .ref 22), (1, .int cI), (2, .int (nI i)), (3, .int (nI j))] [] := by
        intro p'
        induction p' with
        | zero =>
          intro j wk hj g1 g2
          obtain rfl : j = 4 := by omega
          refine v_iload_n C dX6_determinant_9 rfl ?_
          refine v_iconst C (4) dX6_determinant_10 (by decide) ?_
          refine v_icmp_ge C 55 dX6_determinant_11 (by decide) (fun _ => ?_) (fun q => absurd (nI_le (a := 4) (b := 4) (by decide) (by decide)) q)
          refine v_iinc C dX6_determinant_55 rfl (nI_1 i) (by decide) ?_
          refine v_goto C 2 dX6_determinant_58 (by decide) ?_
          refine v_keep [0, 1, 2] (ih (i + 1) wk (by omega) (fun i' j a b => ?_))
          by_cases e : i' = i
          · rw [e]; exact g2 j b
          · exact g1 i' j (by omega) b
        | succ p' ih' =>
          intro j wk hj g1 g2
          have hj4 : j < 4 := by omega
          refine v_iload_n C dX6_determinant_9 rfl ?_
          refine v_iconst C (4) dX6_determinant_10 (by decide) ?_
          refine v_icmp_ge C 55 dX6_determinant_11 (by decide) (fun q => absurd q (nI_ge (b := 4) hj4 (by omega))) (fun _ => ?_)
          refine v_aload_n C dX6_determinant_14 rfl ?_
          refine v_get C dX6_determinant_15 fl_X6_42 rfl rfl ?_
          refine v_iconst C (4) dX6_determinant_18 (by decide) ?_
          refine v_iload_n C dX6_determinant_19 rfl ?_
          refine v_imul C dX6_determinant_20 ?_
          refine v_iload_n C dX6_determinant_21 rfl ?_
          refine v_iadd C dX6_determinant_22 ?_
          refine v_aload_n C dX6_determinant_23 rfl ?_
          refine v_get C dX6_determinant_24 fl_X6_29 rfl rfl ?_
          refine v_iconst C (5) dX6_determinant_27 (by decide) ?_
          refine v_aload_n C dX6_determinant_28 rfl ?_
          refine v_get C dX6_determinant_29 fl_X6_32 rfl rfl ?_
          refine v_iload_n C dX6_determinant_32 rfl ?_
          refine v_iald C i dX6_determinant_33 rfl rfl hi4 (by decide) ?_
          obtain ⟨f1, f2⟩ := hf i hi4
          have fin2 : ∀ x, x < 5 → x = (if j = cc then 4 else j) → V 12 X (hM c M Q D (gG ik tp bt rw rc ch co un bc bu bm wk)) 45 [(0, .ref 22), (1, .int cI), (2, .int (nI i)), (3, .int (nI j))] [.int (nI x), .int (nI 5 * ch i), .ref 28, .int (nI 4 * nI i + nI j), .ref 32] := by
            intro x hx ex
            refine v_iadd C dX6_determinant_45 ?_
            refine v_iald C (5 * f i + x) dX6_determinant_46 rfl (by rw [f1, pk_mul, nI_add]) (by omega) (by decide) ?_
            refine v_i2l C dX6_determinant_47 ?_
            refine v_last C (4 * i + j) dX6_determinant_48 rfl (by rw [pk_mul, nI_add]) (by omega) (by decide) ?_
            refine v_iinc C dX6_determinant_49 rfl (nI_1 j) (by decide) ?_
            refine v_goto C 9 dX6_determinant_52 (by decide) ?_
            obtain ⟨r1, r2, r3⟩ := hR (f i) f2 x hx
            have ev : (rw (5 * f i + x)).toInt64 = lI (m i j) := by
              rw [r1, sI_L (by omega) (by omega), ex, ← hm]
            refine ih' (j + 1) (vp_updL wk (4 * i + j) ((rw (5 * f i + x)).toInt64)) (by omega) (fun i' j' a b => ?_) (fun j' a => ?_)
            · rw [show vp_updL wk (4 * i + j) _ (4 * i' + j') = wk (4 * i' + j') from if_neg (by omega)]
              exact g1 i' j' a b
            · by_cases e : j' = j
              · rw [e, show vp_updL wk (4 * i + j) _ (4 * i + j) = _ from if_pos rfl, ev]
              · rw [show vp_updL wk (4 * i + j) _ (4 * i + j') = wk (4 * i + j') from if_neg (by omega)]
                exact g2 j' (by omega)
          refine v_imul C dX6_determinant_34 ?_
          refine v_iload_n C dX6_determinant_35 rfl ?_
          refine v_iload_n C dX6_determinant_36 rfl ?_
          by_cases e : j = cc
          · refine v_icmp_ne C 44 dX6_determinant_37 (by decide) (fun q => absurd q ((fun z => z ((hcc j hj4).mpr e)))) (fun _ => ?_)
            refine v_iconst C (4) dX6_determinant_40 (by decide) ?_
            refine v_goto C 45 dX6_determinant_41 (by decide) ?_
            exact fin2 4 (by decide) (if_pos e).symm
          · refine v_icmp_ne C 44 dX6_determinant_37 (by decide) (fun _ => ?_) (fun q => absurd q ((fun z => e ((hcc j hj4).mp z))))
            refine v_iload_n C dX6_determinant_44 rfl ?_
            exact fin2 j (by omega) (if_neg e).symm
      refine v_iload_n C dX6_determinant_2 rfl ?_
      refine v_iconst C (4) dX6_determinant_3 (by decide) ?_
      refine v_icmp_ge C 61 dX6_determinant_4 (by decide) (fun q => absurd q (nI_ge (b := 4) hi4 (by omega))) (fun _ => ?_)
      refine v_iconst C (0) dX6_determinant_7 (by decide) ?_
      refine v_istore_n C dX6_determinant_8 (by decide) ?_
      exact cols 4 0 wk rfl h1 (fun j' a => absurd a (Nat.not_lt_zero j'))
  refine v_iconst C (0) dX6_determinant_0 (by decide) ?_
  refine v_istore_n C dX6_determinant_1 (by decide) ?_
  exact rows 4 0 wk rfl (fun i' _ a _ => absurd a (Nat.not_lt_zero i'))
end ROWS
