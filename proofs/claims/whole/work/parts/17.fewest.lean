/-! the reference's fewestOf -/
def fd {α : Type} (f : Nat → α → α) : Nat → α → α
  | 0, B => B
  | m + 1, B => fd f m (f m B)
theorem fd_inv {α : Type} {f : Nat → α → α} {P : α → Prop} : ∀ (M : Nat) (B : α), P B → (∀ i B, i < M → P B → P (f i B)) → P (fd f M B)
  | 0, _, h, _ => h
  | M + 1, B, h, hs => fd_inv M (f M B) (hs M B (by omega) h) (fun i B hi => hs i B (by omega))
theorem fd_le {f : Nat → Nat → Nat} : ∀ (M B : Nat), (∀ i B, i < M → f i B ≤ B) → fd f M B ≤ B
  | 0, _, _ => Nat.le_refl _
  | M + 1, B, h => Nat.le_trans (fd_le M (f M B) (fun i B hi => h i B (by omega))) (h M B (by omega))
theorem fd_at {f : Nat → Nat → Nat} {t : Nat} : ∀ (M B i : Nat), i < M → (∀ i B, i < M → f i B ≤ B) → (∀ B, f i B ≤ t) → fd f M B ≤ t
  | 0, _, i, h, _, _ => absurd h (Nat.not_lt_zero i)
  | M + 1, B, i, h, hd, ht => by
    show fd f M (f M B) ≤ t
    by_cases e : i = M
    · subst e
      exact Nat.le_trans (fd_le i (f i B) (fun j B hj => hd j B (by omega))) (ht B)
    · exact fd_at M (f M B) i (by omega) (fun j B hj => hd j B (by omega)) ht
def sf (W x : Nat) (w fe : Nat → Nat) (a b c e B : Nat) : Nat := if (0 < bcN (v4 a b c e) ∧ wt w (v4 a b c e) ≤ W) ∧ fe (x - bcN (v4 a b c e)) + 1 < B then fe (x - bcN (v4 a b c e)) + 1 else B
theorem sf_le {W x : Nat} {w fe : Nat → Nat} {a b c e B : Nat} : sf W x w fe a b c e B ≤ B := by
  unfold sf
  split
  · rename_i h
    omega
  · exact Nat.le_refl _
def f4 (W x : Nat) (w fe : Nat → Nat) (a b c : Nat) (B : Nat) : Nat := fd (fun e B => sf W x w fe a b c e B) (dv x 3 + 1) B
def f3 (W x : Nat) (w fe : Nat → Nat) (a b : Nat) (B : Nat) : Nat := fd (fun c B => f4 W x w fe a b c B) (dv x 2 + 1) B
def f2 (W x : Nat) (w fe : Nat → Nat) (a : Nat) (B : Nat) : Nat := fd (fun b B => f3 W x w fe a b B) (dv x 1 + 1) B
def f1 (W x : Nat) (w fe : Nat → Nat) (B : Nat) : Nat := fd (fun a B => f2 W x w fe a B) (dv x 0 + 1) B
theorem f4_le {W x : Nat} {w fe : Nat → Nat} {a b c B : Nat} : f4 W x w fe a b c B ≤ B := fd_le _ _ (fun _ _ _ => sf_le)
theorem f3_le {W x : Nat} {w fe : Nat → Nat} {a b B : Nat} : f3 W x w fe a b B ≤ B := fd_le _ _ (fun _ _ _ => f4_le)
theorem f2_le {W x : Nat} {w fe : Nat → Nat} {a B : Nat} : f2 W x w fe a B ≤ B := fd_le _ _ (fun _ _ _ => f3_le)
theorem f1_le {W x : Nat} {w fe : Nat → Nat} {B : Nat} : f1 W x w fe B ≤ B := fd_le _ _ (fun _ _ _ => f2_le)
theorem f1_at {W x : Nat} {w fe : Nat → Nat} {B a b c e : Nat} (ha : a ≤ dv x 0) (hb : b ≤ dv x 1) (hc : c ≤ dv x 2) (he : e ≤ dv x 3) (h1 : 0 < bcN (v4 a b c e)) (h2 : wt w (v4 a b c e) ≤ W) : f1 W x w fe B ≤ fe (x - bcN (v4 a b c e)) + 1 := by
  refine fd_at _ _ a (by omega) (fun _ _ _ => f2_le) (fun B => ?_)
  refine fd_at _ _ b (by omega) (fun _ _ _ => f3_le) (fun B => ?_)
  refine fd_at _ _ c (by omega) (fun _ _ _ => f4_le) (fun B => ?_)
  refine fd_at _ _ e (by omega) (fun _ _ _ => sf_le) (fun B => ?_)
  show sf W x w fe a b c e B ≤ _
  unfold sf
  split
  · exact Nat.le_refl _
  · rename_i h
    exact Nat.le_of_not_lt (fun q => h ⟨⟨h1, h2⟩, q⟩)
theorem f1_ex {W x : Nat} {w fe : Nat → Nat} {B : Nat} : f1 W x w fe B = B ∨ ∃ a b c e, a ≤ dv x 0 ∧ b ≤ dv x 1 ∧ c ≤ dv x 2 ∧ e ≤ dv x 3 ∧ 0 < bcN (v4 a b c e) ∧ wt w (v4 a b c e) ≤ W ∧ f1 W x w fe B = fe (x - bcN (v4 a b c e)) + 1 := by
  refine fd_inv (P := fun z => z = B ∨ ∃ a b c e, a ≤ dv x 0 ∧ b ≤ dv x 1 ∧ c ≤ dv x 2 ∧ e ≤ dv x 3 ∧ 0 < bcN (v4 a b c e) ∧ wt w (v4 a b c e) ≤ W ∧ z = fe (x - bcN (v4 a b c e)) + 1) _ _ (Or.inl rfl) (fun a B1 ha h1 => ?_)
  refine fd_inv (P := fun z => z = B ∨ ∃ a b c e, a ≤ dv x 0 ∧ b ≤ dv x 1 ∧ c ≤ dv x 2 ∧ e ≤ dv x 3 ∧ 0 < bcN (v4 a b c e) ∧ wt w (v4 a b c e) ≤ W ∧ z = fe (x - bcN (v4 a b c e)) + 1) _ _ h1 (fun b B2 hb h2 => ?_)
  refine fd_inv (P := fun z => z = B ∨ ∃ a b c e, a ≤ dv x 0 ∧ b ≤ dv x 1 ∧ c ≤ dv x 2 ∧ e ≤ dv x 3 ∧ 0 < bcN (v4 a b c e) ∧ wt w (v4 a b c e) ≤ W ∧ z = fe (x - bcN (v4 a b c e)) + 1) _ _ h2 (fun c B3 hc h3 => ?_)
  refine fd_inv (P := fun z => z = B ∨ ∃ a b c e, a ≤ dv x 0 ∧ b ≤ dv x 1 ∧ c ≤ dv x 2 ∧ e ≤ dv x 3 ∧ 0 < bcN (v4 a b c e) ∧ wt w (v4 a b c e) ≤ W ∧ z = fe (x - bcN (v4 a b c e)) + 1) _ _ h3 (fun e B4 he h4 => ?_)
  show sf W x w fe a b c e B4 = B ∨ _
  unfold sf
  split
  · rename_i h
    exact Or.inr ⟨a, b, c, e, by omega, by omega, by omega, by omega, h.1.1, h.1.2, rfl⟩
  · exact h4
section FEW
variable {c : Nat → PC} {W n : Nat} {w q fe : Nat → Nat} {pn : Nat → Int32} {pd ik : Int32} {D : Nat → Int32} {G : SG} {d : Nat}
set_option maxHeartbeats 8000000 in
set_option maxRecDepth 100000 in
theorem m_fewestOf (x : Nat) (hx : x < 2401) (hn : n ≤ 4) (hW2 : W ≤ 60) (hw : ∀ k, k < 4 → qn n w k ≤ 60) (hfe : ∀ j, j < 2401 → fe j ≤ 99) (hd : 1 ≤ d) : Con yX6_fewestOf cX6_fewestOf 9 (some .int) d [.ref 22, .int (nI x)] (hM c (jJ W n w q) (iN fe, pn, pd, ik) D G) (fun r h' => r = some (.int (nI (f1 W x (qn n w) fe 99))) ∧ h' = hM c (jJ W n w q) (iN fe, pn, pd, ik) D G) := by
  refine con_of [(0, .ref 22), (1, .int (nI x))] (by decide) (fun _ => Nat.le_of_ble_eq_true rfl) (fun _ => rfl) (fun X C E => ?_)
  have neg1 : (nI 0 + (-1) : Int32) < 0 := by decide
  have g0 := dv_le x 0
  have g1 := dv_le x 1
  have g2 := dv_le x 2
  have g3 := dv_le x 3
  -- the innermost body
  have body : ∀ (a b cc e B : Nat), a ≤ dv x 0 → b ≤ dv x 1 → cc ≤ dv x 2 → e ≤ dv x 3 → B ≤ 100 →
      V 9 X (hM c (jJ W n w q) (iN fe, pn, pd, ik) D G) 44 [(0, .ref 22), (1, .int (nI x)), (2, .int (nI (sf W x (qn n w) fe a b cc e B))), (3, .int (nI a)), (4, .int (nI b)), (5, .int (nI cc)), (6, .int (nI e + (-1)))] [] →
      V 9 X (hM c (jJ W n w q) (iN fe, pn, pd, ik) D G) 49 [(0, .ref 22), (1, .int (nI x)), (2, .int (nI B)), (3, .int (nI a)), (4, .int (nI b)), (5, .int (nI cc)), (6, .int (nI e))] [] := by
    intro a b cc e B ha hb hc he hB kk
    have hpx : bcN (v4 a b cc e) ≤ x := by
      have h1 := bc_le (v := dv x) (p := v4 a b cc e) (all4 ha hb hc he)
      rw [bc_dv hx] at h1
      exact h1
    have hfx := hfe (x - bcN (v4 a b cc e)) (by omega)
    have hm0 : a * qn n w 0 ≤ 6 * 60 := Nat.mul_le_mul (by omega) (hw 0 (by omega))
    have hm1 : b * qn n w 1 ≤ 6 * 60 := Nat.mul_le_mul (by omega) (hw 1 (by omega))
    have hm2 : cc * qn n w 2 ≤ 6 * 60 := Nat.mul_le_mul (by omega) (hw 2 (by omega))
    have hm3 : e * qn n w 3 ≤ 6 * 60 := Nat.mul_le_mul (by omega) (hw 3 (by omega))
    have hwd : wt (qn n w) (v4 a b cc e) = a * qn n w 0 + b * qn n w 1 + cc * qn n w 2 + e * qn n w 3 := rfl
    have fin : ∀ (y : Int32) (R : Nat), sf W x (qn n w) fe a b cc e B = R → V 9 X (hM c (jJ W n w q) (iN fe, pn, pd, ik) D G) 158 [(0, .ref 22), (1, .int (nI x)), (2, .int (nI B)), (3, .int (nI a)), (4, .int (nI b)), (5, .int (nI cc)), (6, .int (nI e)), (7, .int (nI (bcN (v4 a b cc e)))), (8, .int y)] [.int (nI R)] := by
      intro y R hR
      refine v_istore_n C dX6_fewestOf_158 (by decide) ?_
      refine v_iinc C dX6_fewestOf_159 rfl rfl (by decide) ?_
      refine v_goto C 44 dX6_fewestOf_162 (by decide) ?_
      refine v_keep [0, 1, 2, 3, 4, 5, 6] ?_
      rw [hR] at kk
      exact kk
    have no : ∀ y : Int32, sf W x (qn n w) fe a b cc e B = B → V 9 X (hM c (jJ W n w q) (iN fe, pn, pd, ik) D G) 157 [(0, .ref 22), (1, .int (nI x)), (2, .int (nI B)), (3, .int (nI a)), (4, .int (nI b)), (5, .int (nI cc)), (6, .int (nI e)), (7, .int (nI (bcN (v4 a b cc e)))), (8, .int y)] [] := by
      intro y hR
      refine v_iload_n C dX6_fewestOf_157 rfl ?_
      exact fin y B hR
    have can0 : ¬ (0 < bcN (v4 a b cc e) ∧ wt (qn n w) (v4 a b cc e) ≤ W) → V 9 X (hM c (jJ W n w q) (iN fe, pn, pd, ik) D G) 120 [(0, .ref 22), (1, .int (nI x)), (2, .int (nI B)), (3, .int (nI a)), (4, .int (nI b)), (5, .int (nI cc)), (6, .int (nI e)), (7, .int (nI (bcN (v4 a b cc e))))] [] := by
      intro z
      refine v_iconst C (0) dX6_fewestOf_120 (by decide) ?_
      refine v_istore C dX6_fewestOf_121 (by decide) ?_
      refine v_iload C dX6_fewestOf_123 rfl ?_
      refine v_if_eq C 157 dX6_fewestOf_125 (by decide) (fun _ => ?_) (fun z => absurd rfl z)
      exact no 0 (if_neg (fun y => z y.1))
    refine v_bipush C (7) dX6_fewestOf_49 (by decide) ?_
    refine v_bipush C (7) dX6_fewestOf_51 (by decide) ?_
    refine v_bipush C (7) dX6_fewestOf_53 (by decide) ?_
    refine v_iload_n C dX6_fewestOf_55 rfl ?_
    refine v_imul C dX6_fewestOf_56 ?_
    refine v_iload C dX6_fewestOf_57 rfl ?_
    refine v_iadd C dX6_fewestOf_59 ?_
    refine v_imul C dX6_fewestOf_60 ?_
    refine v_iload C dX6_fewestOf_61 rfl ?_
    refine v_iadd C dX6_fewestOf_63 ?_
    refine v_imul C dX6_fewestOf_64 ?_
    refine v_iload C dX6_fewestOf_65 rfl ?_
    refine v_iadd C dX6_fewestOf_67 ?_
    refine v_eq (st' := [.int (nI (bcN (v4 a b cc e)))]) ?_ rfl rfl rfl ?_
    case refine_2 =>
      show [Value.int (nI 7 * (nI 7 * (nI 7 * nI a + nI b) + nI cc) + nI e)] = _
      rw [pk_mul, nI_add, pk_mul, nI_add, pk_mul, nI_add, show 7 * (7 * (7 * a + b) + cc) + e = bcN (v4 a b cc e) by simp only [bcN, v4]; omega]
    refine v_istore C dX6_fewestOf_68 (by decide) ?_
    refine v_iload C dX6_fewestOf_70 rfl ?_
    by_cases hp : 0 < bcN (v4 a b cc e)
    case neg =>
      refine v_if_le C 120 dX6_fewestOf_72 (by decide) (fun _ => ?_) (fun z => absurd (by rw [show bcN (v4 a b cc e) = 0 by omega]; decide) z)
      exact can0 (fun y => hp y.1)
    refine v_if_le C 120 dX6_fewestOf_72 (by decide) (fun z => absurd z (nI_nle hp (by omega))) (fun _ => ?_)
    refine v_iload_n C dX6_fewestOf_75 rfl ?_
    refine v_aload_n C dX6_fewestOf_76 rfl ?_
    refine v_iconst C (0) dX6_fewestOf_77 (by decide) ?_
    refine v_callV C dX6_fewestOf_78 lk_X6_62 (m_widthOf (d := 0) 0 (by decide) hn) hd rfl rfl rfl rfl rfl (Nat.le_of_ble_eq_true rfl) ?_
    rintro r h' ⟨rfl, rfl⟩
    refine v_imul C dX6_fewestOf_81 ?_
    refine v_iload C dX6_fewestOf_82 rfl ?_
    refine v_aload_n C dX6_fewestOf_84 rfl ?_
    refine v_iconst C (1) dX6_fewestOf_85 (by decide) ?_
    refine v_callV C dX6_fewestOf_86 lk_X6_62 (m_widthOf (d := 0) 1 (by decide) hn) hd rfl rfl rfl rfl rfl (Nat.le_of_ble_eq_true rfl) ?_
    rintro r h' ⟨rfl, rfl⟩
    refine v_imul C dX6_fewestOf_89 ?_
    refine v_iadd C dX6_fewestOf_90 ?_
    refine v_iload C dX6_fewestOf_91 rfl ?_
    refine v_aload_n C dX6_fewestOf_93 rfl ?_
    refine v_iconst C (2) dX6_fewestOf_94 (by decide) ?_
    refine v_callV C dX6_fewestOf_95 lk_X6_62 (m_widthOf (d := 0) 2 (by decide) hn) hd rfl rfl rfl rfl rfl (Nat.le_of_ble_eq_true rfl) ?_
    rintro r h' ⟨rfl, rfl⟩
    refine v_imul C dX6_fewestOf_98 ?_
    refine v_iadd C dX6_fewestOf_99 ?_
    refine v_iload C dX6_fewestOf_100 rfl ?_
    refine v_aload_n C dX6_fewestOf_102 rfl ?_
    refine v_iconst C (3) dX6_fewestOf_103 (by decide) ?_
    refine v_callV C dX6_fewestOf_104 lk_X6_62 (m_widthOf (d := 0) 3 (by decide) hn) hd rfl rfl rfl rfl rfl (Nat.le_of_ble_eq_true rfl) ?_
    rintro r h' ⟨rfl, rfl⟩
    refine v_imul C dX6_fewestOf_107 ?_
    refine v_iadd C dX6_fewestOf_108 ?_
    refine v_aload_n C dX6_fewestOf_109 rfl ?_
    refine v_get C dX6_fewestOf_110 fl_X6_7 rfl rfl ?_
    refine v_eq (st' := [.int (nI W), .int (nI (wt (qn n w) (v4 a b cc e)))]) ?_ rfl rfl rfl ?_
    case refine_2 =>
      show [Value.int (nI W), .int (nI a * nI (qn n w 0) + nI b * nI (qn n w 1) + nI cc * nI (qn n w 2) + nI e * nI (qn n w 3))] = _
      rw [pk_mul, pk_mul, pk_mul, pk_mul, nI_add, nI_add, nI_add]
      rfl
    by_cases hf : wt (qn n w) (v4 a b cc e) ≤ W
    case neg =>
      refine v_icmp_gt C 120 dX6_fewestOf_113 (by decide) (fun _ => ?_) (fun q => absurd (nI_lt (Nat.not_le.mp hf) (by omega)) q)
      exact can0 (fun y => hf y.2)
    refine v_icmp_gt C 120 dX6_fewestOf_113 (by decide) (fun q => absurd q (nI_nlt hf (by omega))) (fun _ => ?_)
    refine v_iconst C (1) dX6_fewestOf_116 (by decide) ?_
    refine v_goto C 121 dX6_fewestOf_117 (by decide) ?_
    refine v_istore C dX6_fewestOf_121 (by decide) ?_
    refine v_iload C dX6_fewestOf_123 rfl ?_
    refine v_if_eq C 157 dX6_fewestOf_125 (by decide) (fun z => absurd z (by decide)) (fun _ => ?_)
    refine v_aload_n C dX6_fewestOf_128 rfl ?_
    refine v_get C dX6_fewestOf_129 fl_X6_20 rfl rfl ?_
    refine v_iload_n C dX6_fewestOf_132 rfl ?_
    refine v_iload C dX6_fewestOf_133 rfl ?_
    refine v_isub C dX6_fewestOf_135 ?_
    refine v_iald C (x - bcN (v4 a b cc e)) dX6_fewestOf_136 rfl (pk_sub hpx) (by omega) (by decide) ?_
    refine v_iconst C (1) dX6_fewestOf_137 (by decide) ?_
    refine v_iadd C dX6_fewestOf_138 ?_
    refine v_iload_n C dX6_fewestOf_139 rfl ?_
    refine v_eq (st' := [.int (nI B), .int (nI (fe (x - bcN (v4 a b cc e)) + 1))]) ?_ rfl rfl rfl (by show [Value.int (nI B), .int (nI (fe (x - bcN (v4 a b cc e))) + nI 1)] = _; rw [nI_add])
    by_cases hlt : fe (x - bcN (v4 a b cc e)) + 1 < B
    · refine v_icmp_ge C 157 dX6_fewestOf_140 (by decide) (fun q => absurd q (nI_ge hlt (by omega))) (fun _ => ?_)
      refine v_aload_n C dX6_fewestOf_143 rfl ?_
      refine v_get C dX6_fewestOf_144 fl_X6_20 rfl rfl ?_
      refine v_iload_n C dX6_fewestOf_147 rfl ?_
      refine v_iload C dX6_fewestOf_148 rfl ?_
      refine v_isub C dX6_fewestOf_150 ?_
      refine v_iald C (x - bcN (v4 a b cc e)) dX6_fewestOf_151 rfl (pk_sub hpx) (by omega) (by decide) ?_
      refine v_iconst C (1) dX6_fewestOf_152 (by decide) ?_
      refine v_iadd C dX6_fewestOf_153 ?_
      refine v_goto C 158 dX6_fewestOf_154 (by decide) ?_
      refine v_eq (fin 1 (fe (x - bcN (v4 a b cc e)) + 1) (if_pos ⟨⟨hp, hf⟩, hlt⟩)) rfl rfl rfl ?_
      show [Value.int (nI (fe (x - bcN (v4 a b cc e))) + nI 1)] = _
      rw [nI_add]
    · refine v_icmp_ge C 157 dX6_fewestOf_140 (by decide) (fun _ => ?_) (fun q => absurd (nI_le (Nat.not_lt.mp hlt) (by omega)) q)
      exact no 1 (if_neg (fun y => hlt y.2))
  have l4 : ∀ (m a b cc B : Nat), a ≤ dv x 0 → b ≤ dv x 1 → cc ≤ dv x 2 → m ≤ dv x 3 + 1 → B ≤ 100 →
      V 9 X (hM c (jJ W n w q) (iN fe, pn, pd, ik) D G) 165 [(0, .ref 22), (1, .int (nI x)), (2, .int (nI (fd (fun e B => sf W x (qn n w) fe a b cc e B) m B))), (3, .int (nI a)), (4, .int (nI b)), (5, .int (nI cc))] [] →
      V 9 X (hM c (jJ W n w q) (iN fe, pn, pd, ik) D G) 44 [(0, .ref 22), (1, .int (nI x)), (2, .int (nI B)), (3, .int (nI a)), (4, .int (nI b)), (5, .int (nI cc)), (6, .int (nI m + (-1)))] [] := by
    intro m
    induction m with
    | zero =>
      intro a b cc B ha hb hc hm hB kk
      refine v_iload C dX6_fewestOf_44 rfl ?_
      refine v_if_lt C 165 dX6_fewestOf_46 (by decide) (fun _ => ?_) (fun q => absurd (neg1) q)
      exact v_keep [0, 1, 2, 3, 4, 5] kk
    | succ m ih =>
      intro a b cc B ha hb hc hm hB kk
      rw [pk_m1]
      refine v_iload C dX6_fewestOf_44 rfl ?_
      refine v_if_lt C 165 dX6_fewestOf_46 (by decide) (fun q => absurd q (nI_pos (by omega))) (fun _ => ?_)
      exact body a b cc m B ha hb hc (by omega) hB (ih a b cc _ ha hb hc (by omega) (Nat.le_trans sf_le hB) kk)
  have l3 : ∀ (m a b B : Nat), a ≤ dv x 0 → b ≤ dv x 1 → m ≤ dv x 2 + 1 → B ≤ 100 →
      V 9 X (hM c (jJ W n w q) (iN fe, pn, pd, ik) D G) 171 [(0, .ref 22), (1, .int (nI x)), (2, .int (nI (fd (fun e B => f4 W x (qn n w) fe a b e B) m B))), (3, .int (nI a)), (4, .int (nI b))] [] →
      V 9 X (hM c (jJ W n w q) (iN fe, pn, pd, ik) D G) 32 [(0, .ref 22), (1, .int (nI x)), (2, .int (nI B)), (3, .int (nI a)), (4, .int (nI b)), (5, .int (nI m + (-1)))] [] := by
    intro m
    induction m with
    | zero =>
      intro a b B ha hb hm hB kk
      refine v_iload C dX6_fewestOf_32 rfl ?_
      refine v_if_lt C 171 dX6_fewestOf_34 (by decide) (fun _ => ?_) (fun q => absurd (neg1) q)
      exact v_keep [0, 1, 2, 3, 4] kk
    | succ m ih =>
      intro a b B ha hb hm hB kk
      rw [pk_m1]
      refine v_iload C dX6_fewestOf_32 rfl ?_
      refine v_if_lt C 171 dX6_fewestOf_34 (by decide) (fun q => absurd q (nI_pos (by omega))) (fun _ => ?_)
      refine v_iload_n C dX6_fewestOf_37 rfl ?_
      refine v_iconst C (3) dX6_fewestOf_38 (by decide) ?_
      refine v_callS C dX6_fewestOf_39 lk_X6_58 (m_digit (d := 0) x 3 hx (by decide)) hd rfl rfl (Nat.le_of_ble_eq_true rfl) ?_
      rintro r h' ⟨rfl, rfl⟩
      refine v_istore C dX6_fewestOf_42 (by decide) ?_
      refine v_eq (l4 (dv x 3 + 1) a b m B ha hb (by omega) (Nat.le_refl _) hB ?_) rfl rfl (by show _ = _; rw [pk_m1]; rfl) rfl
      refine v_iinc C dX6_fewestOf_165 rfl rfl (by decide) ?_
      refine v_goto C 32 dX6_fewestOf_168 (by decide) ?_
      exact ih a b _ ha hb (by omega) (Nat.le_trans f4_le hB) kk
  have l2 : ∀ (m a B : Nat), a ≤ dv x 0 → m ≤ dv x 1 + 1 → B ≤ 100 →
      V 9 X (hM c (jJ W n w q) (iN fe, pn, pd, ik) D G) 177 [(0, .ref 22), (1, .int (nI x)), (2, .int (nI (fd (fun e B => f3 W x (qn n w) fe a e B) m B))), (3, .int (nI a))] [] →
      V 9 X (hM c (jJ W n w q) (iN fe, pn, pd, ik) D G) 20 [(0, .ref 22), (1, .int (nI x)), (2, .int (nI B)), (3, .int (nI a)), (4, .int (nI m + (-1)))] [] := by
    intro m
    induction m with
    | zero =>
      intro a B ha hm hB kk
      refine v_iload C dX6_fewestOf_20 rfl ?_
      refine v_if_lt C 177 dX6_fewestOf_22 (by decide) (fun _ => ?_) (fun q => absurd (neg1) q)
      exact v_keep [0, 1, 2, 3] kk
    | succ m ih =>
      intro a B ha hm hB kk
      rw [pk_m1]
      refine v_iload C dX6_fewestOf_20 rfl ?_
      refine v_if_lt C 177 dX6_fewestOf_22 (by decide) (fun q => absurd q (nI_pos (by omega))) (fun _ => ?_)
      refine v_iload_n C dX6_fewestOf_25 rfl ?_
      refine v_iconst C (2) dX6_fewestOf_26 (by decide) ?_
      refine v_callS C dX6_fewestOf_27 lk_X6_58 (m_digit (d := 0) x 2 hx (by decide)) hd rfl rfl (Nat.le_of_ble_eq_true rfl) ?_
      rintro r h' ⟨rfl, rfl⟩
      refine v_istore C dX6_fewestOf_30 (by decide) ?_
      refine v_eq (l3 (dv x 2 + 1) a m B ha (by omega) (Nat.le_refl _) hB ?_) rfl rfl (by show _ = _; rw [pk_m1]; rfl) rfl
      refine v_iinc C dX6_fewestOf_171 rfl rfl (by decide) ?_
      refine v_goto C 20 dX6_fewestOf_174 (by decide) ?_
      exact ih a _ ha (by omega) (Nat.le_trans f3_le hB) kk
  have l1 : ∀ (m B : Nat), m ≤ dv x 0 + 1 → B ≤ 100 →
      V 9 X (hM c (jJ W n w q) (iN fe, pn, pd, ik) D G) 183 [(0, .ref 22), (1, .int (nI x)), (2, .int (nI (fd (fun e B => f2 W x (qn n w) fe e B) m B)))] [] →
      V 9 X (hM c (jJ W n w q) (iN fe, pn, pd, ik) D G) 9 [(0, .ref 22), (1, .int (nI x)), (2, .int (nI B)), (3, .int (nI m + (-1)))] [] := by
    intro m
    induction m with
    | zero =>
      intro B hm hB kk
      refine v_iload_n C dX6_fewestOf_9 rfl ?_
      refine v_if_lt C 183 dX6_fewestOf_10 (by decide) (fun _ => ?_) (fun q => absurd (neg1) q)
      exact v_keep [0, 1, 2] kk
    | succ m ih =>
      intro B hm hB kk
      rw [pk_m1]
      refine v_iload_n C dX6_fewestOf_9 rfl ?_
      refine v_if_lt C 183 dX6_fewestOf_10 (by decide) (fun q => absurd q (nI_pos (by omega))) (fun _ => ?_)
      refine v_iload_n C dX6_fewestOf_13 rfl ?_
      refine v_iconst C (1) dX6_fewestOf_14 (by decide) ?_
      refine v_callS C dX6_fewestOf_15 lk_X6_58 (m_digit (d := 0) x 1 hx (by decide)) hd rfl rfl (Nat.le_of_ble_eq_true rfl) ?_
      rintro r h' ⟨rfl, rfl⟩
      refine v_istore C dX6_fewestOf_18 (by decide) ?_
      refine v_eq (l2 (dv x 1 + 1) m B (by omega) (Nat.le_refl _) hB ?_) rfl rfl (by show _ = _; rw [pk_m1]; rfl) rfl
      refine v_iinc C dX6_fewestOf_177 rfl rfl (by decide) ?_
      refine v_goto C 9 dX6_fewestOf_180 (by decide) ?_
      exact ih _ (by omega) (Nat.le_trans f2_le hB) kk
  refine v_bipush C (99) dX6_fewestOf_0 (by decide) ?_
  refine v_istore_n C dX6_fewestOf_2 (by decide) ?_
  refine v_iload_n C dX6_fewestOf_3 rfl ?_
  refine v_iconst C (0) dX6_fewestOf_4 (by decide) ?_
  refine v_callS C dX6_fewestOf_5 lk_X6_58 (m_digit (d := 0) x 0 hx (by decide)) hd rfl rfl (Nat.le_of_ble_eq_true rfl) ?_
  rintro r h' ⟨rfl, rfl⟩
  refine v_istore_n C dX6_fewestOf_8 (by decide) ?_
  refine v_eq (l1 (dv x 0 + 1) 99 (Nat.le_refl _) (by decide) ?_) rfl rfl (by show _ = _; rw [pk_m1]; rfl) rfl
  refine v_iload_n C dX6_fewestOf_183 rfl ?_
  exact v_iret C E dX6_fewestOf_184 ⟨rfl, rfl⟩
end FEW
