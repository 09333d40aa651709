/-! the reference's meets -/
def Cnd (rc : Nat) (A b : Nat → Nat → Int) (σ : Int) : Prop := (σ = 1 ∨ σ = -1) ∧ 0 < σ * Det4 b ∧ Fe rc A (fun c => σ * Det4 (cR b c)) (σ * Det4 b)
def dP (a c : Nat → Int) : Nat → Int
  | 0 => 0
  | k + 1 => dP a c k + a k * c k
theorem dP_4 (a c : Nat → Int) : dP a c 4 = dot4 a c := by
  show 0 + a 0 * c 0 + a 1 * c 1 + a 2 * c 2 + a 3 * c 3 = _
  unfold dot4
  omega
theorem sm_det {b : Nat → Nat → Int} (hb : ∀ i, i < 4 → ∀ k, k < 4 → Sm 60 (b i k)) : Sm 311040000 (Det4 b) := by
  have hA := sm_adj hb
  have hd : Sm (60 * 1296000 + 60 * 1296000 + 60 * 1296000 + 60 * 1296000) (Det4 b) := sm_dot (by decide) (by decide) (hb 0 (by decide)) (hA 0 (by decide))
  exact sm_le (by decide) hd
theorem sm_sg {A x σ : Int} (hσ : σ = 1 ∨ σ = -1) (hx : Sm A x) : Sm A (σ * x) := by
  rcases hσ with h | h
  · rw [h, Int.one_mul]; exact hx
  · rw [h, Int.neg_one_mul]; exact sm_neg hx
theorem det_cc4 (A : Nat → Nat → Int) (f : Nat → Nat) : Det4 (fun i j => A (f i) (if j = 4 then 4 else j)) = Det4 (fun i => A (f i)) := rfl
theorem det_cc (A : Nat → Nat → Int) (f : Nat → Nat) (c : Nat) : Det4 (fun i j => A (f i) (if j = c then 4 else j)) = Det4 (cR (fun i => A (f i)) c) := by
  congr 1
  funext i j
  unfold cR
  by_cases e : j = c
  · rw [if_pos e, if_pos e]
  · rw [if_neg e, if_neg e]
section MEETS
variable {c : Nat → PC} {W n : Nat} {w q : Nat → Nat} {Q : SQ} {D : Nat → Int32} {d : Nat} {M : SM}
variable {ik : Int32} {tp bt : Int64} {rw : Nat → Int32} {rc : Nat} {ch : Nat → Int32} {co : Nat → Int64} {un : Int64} {bc : Nat → Int64} {bu bm : Int64} {wk : Nat → Int64}
theorem ent_sm {A : Nat → Nat → Int} {f : Nat → Nat} (hR : RW rw rc A) (hf : ∀ i, i < 4 → f i < rc) : (∀ i, i < 4 → ∀ k, k < 4 → Sm 60 (A (f i) k)) ∧ ∀ c, c < 4 → ∀ i, i < 4 → ∀ k, k < 4 → Sm 60 (cR (fun i => A (f i)) c i k) := by
  have h : ∀ i, i < 4 → ∀ k, k < 5 → Sm 60 (A (f i) k) := fun i hi k hk => by
    obtain ⟨_, h2, h3⟩ := hR (f i) (hf i hi) k hk
    unfold Sm
    omega
  refine ⟨fun i hi k hk => h i hi k (by omega), fun c hc i hi k hk => ?_⟩
  unfold cR
  split
  · exact h i hi 4 (by decide)
  · exact h i hi k (by omega)
set_option maxHeartbeats 8000000 in
set_option maxRecDepth 100000 in
theorem m_meets (A : Nat → Nat → Int) (f : Nat → Nat) (hrc : rc ≤ 200) (hR : RW rw rc A) (hf : ∀ i, i < 4 → ch i = nI (f i) ∧ f i < rc) (hd : 1 ≤ d) : Con yX6_meets cX6_meets 6 (some .boolean) d [.ref 22] (hM c M Q D (gG ik tp bt rw rc ch co un bc bu bm wk)) (fun r h' => ∃ co' un' wk', h' = hM c M Q D (gG ik tp bt rw rc ch co' un' bc bu bm wk') ∧ ((r = some (.int 1) ∧ ∃ σ, Cnd rc A (fun i => A (f i)) σ ∧ un' = lI (σ * Det4 (fun i => A (f i))) ∧ ∀ j, j < 4 → co' j = lI (σ * Det4 (cR (fun i => A (f i)) j))) ∨ (r = some (.int 0) ∧ ∀ σ, ¬ Cnd rc A (fun i => A (f i)) σ))) := by
  refine con_of [(0, .ref 22)] (by decide) (fun _ => Nat.le_of_ble_eq_true rfl) (fun _ => rfl) (fun X C E => ?_)
  obtain ⟨sb, sc⟩ := ent_sm hR (fun i hi => (hf i hi).2)
  have hdb : Sm 311040000 (Det4 (fun i => A (f i))) := sm_det sb
  have hdc : ∀ j, j < 4 → Sm 311040000 (Det4 (cR (fun i => A (f i)) j)) := fun j hj => sm_det (sc j hj)
  have L0 : Sm L62 0 := by unfold Sm L62; omega
  have s62 : ∀ {x : Int}, Sm 311040000 x → Sm L62 x := fun h => sm_le (by unfold L62; decide) h
  -- the rows
  have chk : ∀ (σ : Int) (co : Nat → Int64) (un : Int64) (wk : Nat → Int64), (σ = 1 ∨ σ = -1) → 0 < σ * Det4 (fun i => A (f i)) → un = lI (σ * Det4 (fun i => A (f i))) → (∀ j, j < 4 → co j = lI (σ * Det4 (cR (fun i => A (f i)) j))) → V 6 X (hM c M Q D (gG ik tp bt rw rc ch co un bc bu bm wk)) 88 [(0, .ref 22)] [] := by
    intro σ co un wk hσ hpos hun hco
    have hsg : ∀ σ', Cnd rc A (fun i => A (f i)) σ' → σ' = σ := by
      intro σ' h'
      rcases hσ with a | a <;> rcases h'.1 with b | b
      · rw [a, b]
      · exfalso; rw [a] at hpos; have := h'.2.1; rw [b] at this; omega
      · exfalso; rw [a] at hpos; have := h'.2.1; rw [b] at this; omega
      · rw [a, b]
    have loop : ∀ (p r : Nat), r + p = rc → (∀ r', r' < r → dot4 (A r') (fun c => σ * Det4 (cR (fun i => A (f i)) c)) ≤ A r' 4 * (σ * Det4 (fun i => A (f i)))) → V 6 X (hM c M Q D (gG ik tp bt rw rc ch co un bc bu bm wk)) 92 [(0, .ref 22), (1, .int (nI 1)), (2, .int (nI r))] [] := by
      intro p
      induction p with
      | zero =>
        intro r hr h1
        obtain rfl : r = rc := by omega
        refine v_iload_n C dX6_meets_92 rfl ?_
        refine v_aload_n C dX6_meets_93 rfl ?_
        refine v_get C dX6_meets_94 fl_X6_100 rfl rfl ?_
        refine v_icmp_ge C 177 dX6_meets_97 (by decide) (fun _ => ?_) (fun q => absurd (nI_le (Nat.le_refl r) (by omega)) q)
        refine v_iload_n C dX6_meets_177 rfl ?_
        exact v_zret C E dX6_meets_178 rfl ⟨co, un, wk, rfl, Or.inl ⟨rfl, σ, ⟨hσ, hpos, h1⟩, hun, hco⟩⟩
      | succ p ih =>
        intro r hr h1
        have hrl : r < rc := by omega
        have sum : ∀ (p' k : Nat), k + p' = 4 → V 6 X (hM c M Q D (gG ik tp bt rw rc ch co un bc bu bm wk)) 109 [(0, .ref 22), (1, .int (nI 1)), (2, .int (nI r)), (3, .long (lI (dP (A r) (fun c => σ * Det4 (cR (fun i => A (f i)) c)) k))), (5, .int (nI k))] [] := by
          intro p'
          induction p' with
          | zero =>
            intro k hk
            obtain rfl : k = 4 := by omega
            refine v_iload C dX6_meets_109 rfl ?_
            refine v_iconst C (4) dX6_meets_111 (by decide) ?_
            refine v_icmp_ge C 144 dX6_meets_112 (by decide) (fun _ => ?_) (fun q => absurd (nI_le (a := 4) (b := 4) (by decide) (by decide)) q)
            refine v_lload_n C dX6_meets_144 rfl ?_
            refine v_aload_n C dX6_meets_145 rfl ?_
            refine v_get C dX6_meets_146 fl_X6_29 rfl rfl ?_
            refine v_iconst C (5) dX6_meets_149 (by decide) ?_
            refine v_iload_n C dX6_meets_150 rfl ?_
            refine v_imul C dX6_meets_151 ?_
            refine v_iconst C (4) dX6_meets_152 (by decide) ?_
            refine v_iadd C dX6_meets_153 ?_
            refine v_iald C (5 * r + 4) dX6_meets_154 rfl (by show nI 5 * nI r + nI 4 = _; rw [pk_mul, nI_add]) (by omega) (by decide) ?_
            refine v_i2l C dX6_meets_155 ?_
            refine v_aload_n C dX6_meets_156 rfl ?_
            refine v_get C dX6_meets_157 fl_X6_107 rfl rfl ?_
            refine v_lmul C dX6_meets_160 ?_
            refine v_lcmp C dX6_meets_161 ?_
            obtain ⟨q1, q2, q3⟩ := hR r hrl 4 (by decide)
            have sv : Sm L62 (dot4 (A r) (fun c => σ * Det4 (cR (fun i => A (f i)) c))) := by
              have h := sm_dot (A := 60) (B := 311040000) (by decide) (by decide) (u := A r) (v := fun c => σ * Det4 (cR (fun i => A (f i)) c)) (fun k hk => by obtain ⟨_, a2, a3⟩ := hR r hrl k (by omega); unfold Sm; omega) (fun k hk => sm_sg hσ (hdc k hk))
              exact sm_le (by unfold L62; decide) h
            have sw : Sm L62 (A r 4 * (σ * Det4 (fun i => A (f i)))) := by
              have h := sm_mul (A := 60) (B := 311040000) (by decide) (by decide) (a := A r 4) (b := σ * Det4 (fun i => A (f i))) (by unfold Sm; omega) (sm_sg hσ hdb)
              exact sm_le (by unfold L62; decide) h
            have hcm : (0 < lg_cmp (lI (dP (A r) (fun c => σ * Det4 (cR (fun i => A (f i)) c)) 4)) ((rw (5 * r + 4)).toInt64 * un)) ↔ A r 4 * (σ * Det4 (fun i => A (f i))) < dot4 (A r) (fun c => σ * Det4 (cR (fun i => A (f i)) c)) := by
              rw [lg_cmp_gt, q1, sI_L (by omega) (by omega), hun, lI_mul, dP_4, lI_lt sw sv]
            by_cases c : A r 4 * (σ * Det4 (fun i => A (f i))) < dot4 (A r) (fun c => σ * Det4 (cR (fun i => A (f i)) c))
            · refine v_if_gt C 169 dX6_meets_162 (by decide) (fun _ => ?_) (fun q => absurd ((hcm.mpr c)) q)
              refine v_iconst C (0) dX6_meets_169 (by decide) ?_
              refine v_istore_n C dX6_meets_170 (by decide) ?_
              refine v_iinc C dX6_meets_171 rfl (nI_1 r) (by decide) ?_
              refine v_goto C 92 dX6_meets_174 (by decide) ?_
              have no : ∀ σ, ¬ Cnd rc A (fun i => A (f i)) σ := by
                intro σ' h'
                obtain rfl := hsg σ' h'
                have := h'.2.2 r hrl
                omega
              refine v_iload_n C dX6_meets_92 rfl ?_
              refine v_aload_n C dX6_meets_93 rfl ?_
              refine v_get C dX6_meets_94 fl_X6_100 rfl rfl ?_
              by_cases e : r + 1 = rc
              · refine v_icmp_ge C 177 dX6_meets_97 (by decide) (fun _ => ?_) (fun q => absurd (nI_le (by omega) (by omega)) q)
                refine v_iload_n C dX6_meets_177 rfl ?_
                exact v_zret C E dX6_meets_178 rfl ⟨co, un, wk, rfl, Or.inr ⟨rfl, no⟩⟩
              · refine v_icmp_ge C 177 dX6_meets_97 (by decide) (fun q => absurd q (nI_ge (by omega) (by omega))) (fun _ => ?_)
                refine v_iload_n C dX6_meets_100 rfl ?_
                refine v_if_eq C 177 dX6_meets_101 (by decide) (fun _ => ?_) (fun q => absurd (rfl) q)
                refine v_iload_n C dX6_meets_177 rfl ?_
                exact v_zret C E dX6_meets_178 rfl ⟨co, un, wk, rfl, Or.inr ⟨rfl, no⟩⟩
            · refine v_if_gt C 169 dX6_meets_162 (by decide) (fun q => absurd q ((fun z => c (hcm.mp z)))) (fun _ => ?_)
              refine v_iconst C (1) dX6_meets_165 (by decide) ?_
              refine v_goto C 170 dX6_meets_166 (by decide) ?_
              refine v_istore_n C dX6_meets_170 (by decide) ?_
              refine v_iinc C dX6_meets_171 rfl (nI_1 r) (by decide) ?_
              refine v_goto C 92 dX6_meets_174 (by decide) ?_
              refine v_keep [0, 1, 2] (ih (r + 1) (by omega) (fun r' hr' => ?_))
              by_cases e : r' = r
              · rw [e]; omega
              · exact h1 r' (by omega)
          | succ p' ih' =>
            intro k hk
            have hk4 : k < 4 := by omega
            refine v_iload C dX6_meets_109 rfl ?_
            refine v_iconst C (4) dX6_meets_111 (by decide) ?_
            refine v_icmp_ge C 144 dX6_meets_112 (by decide) (fun q => absurd q (nI_ge (b := 4) hk4 (by omega))) (fun _ => ?_)
            refine v_lload_n C dX6_meets_115 rfl ?_
            refine v_aload_n C dX6_meets_116 rfl ?_
            refine v_get C dX6_meets_117 fl_X6_29 rfl rfl ?_
            refine v_iconst C (5) dX6_meets_120 (by decide) ?_
            refine v_iload_n C dX6_meets_121 rfl ?_
            refine v_imul C dX6_meets_122 ?_
            refine v_iload C dX6_meets_123 rfl ?_
            refine v_iadd C dX6_meets_125 ?_
            refine v_iald C (5 * r + k) dX6_meets_126 rfl (by show nI 5 * nI r + nI k = _; rw [pk_mul, nI_add]) (by omega) (by decide) ?_
            refine v_i2l C dX6_meets_127 ?_
            refine v_aload_n C dX6_meets_128 rfl ?_
            refine v_get C dX6_meets_129 fl_X6_35 rfl rfl ?_
            refine v_iload C dX6_meets_132 rfl ?_
            refine v_lald C k dX6_meets_134 rfl rfl hk4 (by decide) ?_
            refine v_lmul C dX6_meets_135 ?_
            refine v_ladd C dX6_meets_136 ?_
            refine v_lstore_n C dX6_meets_137 (by decide) ?_
            refine v_iinc C dX6_meets_138 rfl (nI_1 k) (by decide) ?_
            refine v_goto C 109 dX6_meets_141 (by decide) ?_
            obtain ⟨q1, q2, q3⟩ := hR r hrl k (by omega)
            refine v_eq (ih' (k + 1) (by omega)) rfl rfl ?_ rfl
            have e1 : lI (dP (A r) (fun c => σ * Det4 (cR (fun i => A (f i)) c)) k) + (rw (5 * r + k)).toInt64 * co k = lI (dP (A r) (fun c => σ * Det4 (cR (fun i => A (f i)) c)) (k + 1)) := by
              rw [q1, sI_L (by omega) (by omega), hco k hk4, lI_mul, lI_add]
              rfl
            rw [← e1]
            rfl
        refine v_iload_n C dX6_meets_92 rfl ?_
        refine v_aload_n C dX6_meets_93 rfl ?_
        refine v_get C dX6_meets_94 fl_X6_100 rfl rfl ?_
        refine v_icmp_ge C 177 dX6_meets_97 (by decide) (fun q => absurd q (nI_ge hrl (by omega))) (fun _ => ?_)
        refine v_iload_n C dX6_meets_100 rfl ?_
        refine v_if_eq C 177 dX6_meets_101 (by decide) (fun q => absurd q ((by decide))) (fun _ => ?_)
        refine v_lconst C (0) dX6_meets_104 (by decide) ?_
        refine v_lstore_n C dX6_meets_105 (by decide) ?_
        refine v_iconst C (0) dX6_meets_106 (by decide) ?_
        refine v_istore C dX6_meets_107 (by decide) ?_
        exact sum 4 0 rfl
    refine v_iconst C (1) dX6_meets_88 (by decide) ?_
    refine v_istore_n C dX6_meets_89 (by decide) ?_
    refine v_iconst C (0) dX6_meets_90 (by decide) ?_
    refine v_istore_n C dX6_meets_91 (by decide) ?_
    exact loop rc 0 (by omega) (fun r' h => absurd h (Nat.not_lt_zero r'))
  -- the signs
  have neg : ∀ (p i : Nat) (co : Nat → Int64) (wk : Nat → Int64), i + p = 4 → Det4 (fun i => A (f i)) < 0 → (∀ j, j < i → co j = lI (-1 * Det4 (cR (fun i => A (f i)) j))) → (∀ j, i ≤ j → j < 4 → co j = lI (Det4 (cR (fun i => A (f i)) j))) → V 6 X (hM c M Q D (gG ik tp bt rw rc ch co (lI (-1 * Det4 (fun i => A (f i)))) bc bu bm wk)) 64 [(0, .ref 22), (1, .int (nI i))] [] := by
    intro p
    induction p with
    | zero =>
      intro i co wk hi hneg h1 h2
      obtain rfl : i = 4 := by omega
      refine v_iload_n C dX6_meets_64 rfl ?_
      refine v_iconst C (4) dX6_meets_65 (by decide) ?_
      refine v_icmp_ge C 88 dX6_meets_66 (by decide) (fun _ => ?_) (fun q => absurd (nI_le (a := 4) (b := 4) (by decide) (by decide)) q)
      exact v_keep [0] (chk (-1) co _ wk (Or.inr rfl) (by omega) rfl h1)
    | succ p ih =>
      intro i co wk hi hneg h1 h2
      have hi4 : i < 4 := by omega
      refine v_iload_n C dX6_meets_64 rfl ?_
      refine v_iconst C (4) dX6_meets_65 (by decide) ?_
      refine v_icmp_ge C 88 dX6_meets_66 (by decide) (fun q => absurd q (nI_ge (b := 4) hi4 (by omega))) (fun _ => ?_)
      refine v_aload_n C dX6_meets_69 rfl ?_
      refine v_get C dX6_meets_70 fl_X6_35 rfl rfl ?_
      refine v_iload_n C dX6_meets_73 rfl ?_
      refine v_aload_n C dX6_meets_74 rfl ?_
      refine v_get C dX6_meets_75 fl_X6_35 rfl rfl ?_
      refine v_iload_n C dX6_meets_78 rfl ?_
      refine v_lald C i dX6_meets_79 rfl rfl hi4 (by decide) ?_
      refine v_lneg C dX6_meets_80 ?_
      refine v_last C i dX6_meets_81 rfl rfl hi4 (by decide) ?_
      refine v_iinc C dX6_meets_82 rfl (nI_1 i) (by decide) ?_
      refine v_goto C 64 dX6_meets_85 (by decide) ?_
      refine ih (i + 1) (vp_updL co i (-co i)) wk (by omega) hneg (fun j hj => ?_) (fun j a b => ?_)
      · by_cases e : j = i
        · rw [e, show vp_updL co i (-co i) i = -co i from if_pos rfl, h2 i (Nat.le_refl i) hi4, lI_neg, Int.neg_one_mul]
        · rw [show vp_updL co i (-co i) j = co j from if_neg e]
          exact h1 j (by omega)
      · rw [show vp_updL co i (-co i) j = co j from if_neg (by omega)]
        exact h2 j (by omega) b
  have cor : ∀ (p i : Nat) (co : Nat → Int64) (wk : Nat → Int64), i + p = 4 → Det4 (fun i => A (f i)) ≠ 0 → (∀ j, j < i → co j = lI (Det4 (cR (fun i => A (f i)) j))) → V 6 X (hM c M Q D (gG ik tp bt rw rc ch co (lI (Det4 (fun i => A (f i)))) bc bu bm wk)) 22 [(0, .ref 22), (1, .int (nI i))] [] := by
    intro p
    induction p with
    | zero =>
      intro i co wk hi hne h1
      obtain rfl : i = 4 := by omega
      refine v_iload_n C dX6_meets_22 rfl ?_
      refine v_iconst C (4) dX6_meets_23 (by decide) ?_
      refine v_icmp_ge C 44 dX6_meets_24 (by decide) (fun _ => ?_) (fun q => absurd (nI_le (a := 4) (b := 4) (by decide) (by decide)) q)
      refine v_aload_n C dX6_meets_44 rfl ?_
      refine v_get C dX6_meets_45 fl_X6_107 rfl rfl ?_
      refine v_lconst C (0) dX6_meets_48 (by decide) ?_
      refine v_lcmp C dX6_meets_49 ?_
      have hcm : (0 ≤ lg_cmp (lI (Det4 (fun i => A (f i)))) 0) ↔ 0 ≤ Det4 (fun i => A (f i)) := by
        rw [lg_cmp_ge, show (0 : Int64) = lI 0 from rfl, lI_le L0 (s62 hdb)]
      by_cases cs : 0 ≤ Det4 (fun i => A (f i))
      · refine v_if_ge C 88 dX6_meets_50 (by decide) (fun _ => ?_) (fun q => absurd ((hcm.mpr cs)) q)
        exact v_keep [0] (chk 1 co _ wk (Or.inl rfl) (by omega) (by rw [Int.one_mul]) (fun j hj => by rw [Int.one_mul]; exact h1 j hj))
      · refine v_if_ge C 88 dX6_meets_50 (by decide) (fun q => absurd q ((fun z => cs (hcm.mp z)))) (fun _ => ?_)
        refine v_aload_n C dX6_meets_53 rfl ?_
        refine v_aload_n C dX6_meets_54 rfl ?_
        refine v_get C dX6_meets_55 fl_X6_107 rfl rfl ?_
        refine v_lneg C dX6_meets_58 ?_
        refine v_put C dX6_meets_59 fp_X6_107 rfl (fun _ => rfl) (fun _ => rfl) (Nat.le_of_ble_eq_true rfl) ?_
        refine v_iconst C (0) dX6_meets_62 (by decide) ?_
        refine v_istore_n C dX6_meets_63 (by decide) ?_
        refine v_keep [0, 1] (v_eq (neg 4 0 co wk rfl (by omega) (fun j hj => absurd hj (Nat.not_lt_zero j)) (fun j _ hj => h1 j hj)) ?_ rfl rfl rfl)
        rw [Int.neg_one_mul, ← lI_neg]
        rfl
    | succ p ih =>
      intro i co wk hi hne h1
      have hi4 : i < 4 := by omega
      refine v_iload_n C dX6_meets_22 rfl ?_
      refine v_iconst C (4) dX6_meets_23 (by decide) ?_
      refine v_icmp_ge C 44 dX6_meets_24 (by decide) (fun q => absurd q (nI_ge (b := 4) hi4 (by omega))) (fun _ => ?_)
      refine v_aload_n C dX6_meets_27 rfl ?_
      refine v_get C dX6_meets_28 fl_X6_35 rfl rfl ?_
      refine v_iload_n C dX6_meets_31 rfl ?_
      refine v_aload_n C dX6_meets_32 rfl ?_
      refine v_iload_n C dX6_meets_33 rfl ?_
      refine v_callV C dX6_meets_34 lk_X6_103 (m_determinant (d := 0) A f (nI i) i (fun j hj => nI_eq (by omega) (by omega)) hrc hR hf) (by omega) rfl rfl rfl rfl rfl (Nat.le_of_ble_eq_true rfl) ?_
      rintro o h' ⟨rfl, wk', rfl⟩
      refine v_last C i dX6_meets_37 rfl rfl hi4 (by decide) ?_
      refine v_iinc C dX6_meets_38 rfl (nI_1 i) (by decide) ?_
      refine v_goto C 22 dX6_meets_41 (by decide) ?_
      refine ih (i + 1) (vp_updL co i (lI (Det4 (fun i_1 j => A (f i_1) (if j = i then 4 else j))))) wk' (by omega) hne (fun j hj => ?_)
      by_cases e : j = i
      · rw [e, show vp_updL co i _ i = _ from if_pos rfl, det_cc]
      · rw [show vp_updL co i _ j = co j from if_neg e]
        exact h1 j (by omega)
  refine v_aload_n C dX6_meets_0 rfl ?_
  refine v_aload_n C dX6_meets_1 rfl ?_
  refine v_iconst C (-1) dX6_meets_2 (by decide) ?_
  refine v_callV C dX6_meets_3 lk_X6_103 (m_determinant (d := 0) A f (-1) 4 (fun j hj => ⟨fun z => absurd z (nI_ne1 hj), fun z => absurd hj (by omega)⟩) hrc hR hf) (by omega) rfl rfl rfl rfl rfl (Nat.le_of_ble_eq_true rfl) ?_
  rintro o h' ⟨rfl, wk', rfl⟩
  rw [det_cc4]
  refine v_put C dX6_meets_6 fp_X6_107 rfl (fun _ => rfl) (fun _ => rfl) (Nat.le_of_ble_eq_true rfl) ?_
  refine v_aload_n C dX6_meets_9 rfl ?_
  refine v_get C dX6_meets_10 fl_X6_107 rfl rfl ?_
  refine v_lconst C (0) dX6_meets_13 (by decide) ?_
  refine v_lcmp C dX6_meets_14 ?_
  by_cases hz : Det4 (fun i => A (f i)) = 0
  · refine v_if_ne C 20 dX6_meets_15 (by decide) (fun z => absurd ((lg_cmp_eq _ _).mpr (by rw [hz]; rfl)) z) (fun _ => ?_)
    refine v_iconst C (0) dX6_meets_18 (by decide) ?_
    refine v_zret C E dX6_meets_19 rfl ⟨co, lI (Det4 fun i => A (f i)), wk', rfl, Or.inr ⟨rfl, fun σ h => ?_⟩⟩
    have := h.2.1
    rw [hz, Int.mul_zero] at this
    omega
  · refine v_if_ne C 20 dX6_meets_15 (by decide) (fun _ => ?_) (fun z => absurd ((lI_eq (s62 hdb) L0).mp ((lg_cmp_eq _ _).mp z)) hz)
    refine v_iconst C (0) dX6_meets_20 (by decide) ?_
    refine v_istore_n C dX6_meets_21 (by decide) ?_
    exact cor 4 0 co wk' rfl hz (fun j hj => absurd hj (Nat.not_lt_zero j))
end MEETS
