/-! the reference's learn -/
section LM
variable {W n : Nat} {w q : Nat → Nat}
theorem pk_single {v : Nat → Nat} (hw : ∀ k, k < 4 → 0 < v k → w k ≤ W) : ∀ (N : Nat) (v : Nat → Nat), sz4 v = N → (∀ k, k < 4 → 0 < v k → w k ≤ W) → Pk W w N v := by
  intro N
  induction N with
  | zero =>
    intro v hv _
    unfold sz4 at hv
    apply all4 <;> omega
  | succ N ih =>
    intro v hv hw
    obtain ⟨k, hk, hvk⟩ := sz_pos (v := v) (by omega)
    have h1 := ih (va_up v k (v k - 1)) (by have := sz_dec (v := v) k hk hvk; omega) (fun j hj hvj => hw j hj (by
      unfold va_up at hvj
      split at hvj
      · rename_i e
        rw [e]
        exact hvk
      · exact hvj))
    refine ⟨va_up (fun _ => 0) k (0 + 1), fun j hj => ?_, ?_, pk_congr N (fun j hj => ?_) h1⟩
    · unfold va_up
      split
      · rename_i e
        rw [e]
        omega
      · exact Nat.zero_le _
    · have := wt_inc (w := w) (v := fun _ => 0) k hk
      rw [this]
      have h3 := hw k hk hvk
      have h4 : wt w (fun _ => 0) = 0 := by simp [wt]
      omega
    · show va_up v k (v k - 1) j = v j - va_up (fun _ => 0) k (0 + 1) j
      unfold va_up
      split
      · rename_i e
        rw [e]
      · rfl
theorem isF_ex {v : Nat → Nat} (hw : ∀ k, k < 4 → 0 < v k → w k ≤ W) : ∃ m, IsF W w v m ∧ m ≤ sz4 v := by
  have h1 := pk_single hw (sz4 v) v rfl hw
  obtain ⟨m, h2, h3⟩ := pk_least (fun k => Pk W w k v) ⟨_, h1⟩
  exact ⟨m, ⟨h2, fun m' h => Nat.le_of_not_lt (fun z => h3 m' z h)⟩, Nat.le_of_not_lt (fun z => h3 _ z h1)⟩
theorem isF_congr {v v' : Nat → Nat} {m : Nat} (e : eq4 v v') (h : IsF W w v m) : IsF W w v' m := ⟨pk_congr m e h.1, fun m' z => h.2 m' (pk_congr m' (fun k hk => (e k hk).symm) z)⟩
theorem isF_0 {v : Nat → Nat} (h : ∀ k, k < 4 → v k = 0) : IsF W w v 0 := ⟨h, fun _ _ => Nat.zero_le _⟩
theorem isF_pos {v : Nat → Nat} {m : Nat} (h : IsF W w v m) (hm : m = 0) : ∀ k, k < 4 → v k = 0 := by
  subst hm
  exact h.1
theorem isF_up {v p : Nat → Nat} {m m' : Nat} (h : IsF W w v m) (hp : ∀ k, k < 4 → p k ≤ v k) (hw : wt w p ≤ W) (h' : IsF W w (vsub v p) m') : m ≤ m' + 1 := h.2 _ ⟨p, hp, hw, h'.1⟩
theorem isF_gd {v p : Nat → Nat} {m m' : Nat} (h : IsF W w v m) (h' : IsF W w (vsub v p) m') : Gd W n w v p ↔ (∀ k, k < 4 → p k ≤ v k) ∧ wt w p ≤ W ∧ m' + 1 = m := by
  constructor
  · rintro ⟨h1, h2, k, h3, h4⟩
    refine ⟨h1, h2, ?_⟩
    have h5 := h'.2 _ h3
    have h6 : ¬ m ≤ k := fun z => h4 (pk_mono z h.1)
    have h7 := isF_up h h1 h2 h'
    omega
  · rintro ⟨h1, h2, h3⟩
    exact ⟨h1, h2, m', h'.1, fun z => by have := h.2 _ z; omega⟩
theorem isF_gd_ex {v : Nat → Nat} {m : Nat} (h : IsF W w v m) (hm : 0 < m) : ∃ p, Gd W n w v p := by
  obtain ⟨j, rfl⟩ : ∃ j, m = j + 1 := ⟨m - 1, by omega⟩
  obtain ⟨p, h1, h2, h3⟩ := h.1
  exact ⟨p, h1, h2, j, h3, fun z => by have := h.2 _ z; omega⟩
/-- what fewestOf finds, where the codes below are known -/
theorem f1_isF {x : Nat} {fe : Nat → Nat} (hx : x < 2401) (hx0 : 0 < x) (hw : ∀ k, k < 4 → 0 < dv x k → w k ≤ W) (hfe : ∀ u : Nat → Nat, (∀ k, k < 4 → u k ≤ dv x k) → bcN u < x → IsF W w u (fe (bcN u))) : IsF W w (dv x) (f1 W x w fe 99) ∧ f1 W x w fe 99 ≤ 24 := by
  obtain ⟨m, hm, hm2⟩ := isF_ex (v := dv x) hw
  have hm24 : m ≤ 24 := by
    have a0 := dv_le x 0
    have a1 := dv_le x 1
    have a2 := dv_le x 2
    have a3 := dv_le x 3
    unfold sz4 at hm2
    omega
  have hbx := bc_dv hx
  have hm0 : 0 < m := Nat.pos_of_ne_zero (fun z => by
    have := isF_pos hm z
    have h0 : bcN (dv x) = 0 := by unfold bcN; rw [this 0 (by omega), this 1 (by omega), this 2 (by omega), this 3 (by omega)]
    omega)
  -- below a pattern
  have below : ∀ p : Nat → Nat, (∀ k, k < 4 → p k ≤ dv x k) → 0 < bcN p → IsF W w (vsub (dv x) p) (fe (x - bcN p)) := by
    intro p hp h0
    have h1 := bc_sub hp
    have h2 := bc_le hp
    rw [hbx] at h1 h2
    rw [h1]
    exact hfe _ (fun k hk => Nat.sub_le _ _) (by rw [← h1]; omega)
  have e4 : ∀ p : Nat → Nat, eq4 (v4 (p 0) (p 1) (p 2) (p 3)) p := fun p => all4 rfl rfl rfl rfl
  have hle : f1 W x w fe 99 ≤ m := by
    obtain ⟨p, hg⟩ := isF_gd_ex (n := 0) hm hm0
    have hp0 : 0 < bcN p := Nat.pos_of_ne_zero (fun z => by
      obtain ⟨h1, h2, k, h3, h4⟩ := hg
      apply h4
      refine pk_congr k (fun j hj => ?_) h3
      show dv x j - p j = dv x j
      unfold bcN at z
      have : p j = 0 := by
        match j, hj with
        | 0, _ => omega
        | 1, _ => omega
        | 2, _ => omega
        | 3, _ => omega
      omega)
    have hb := below p hg.1 hp0
    have hq := (isF_gd (n := 0) hm hb).mp hg
    have h1 := f1_at (W := W) (x := x) (w := w) (fe := fe) (B := 99) (hg.1 0 (by omega)) (hg.1 1 (by omega)) (hg.1 2 (by omega)) (hg.1 3 (by omega)) (by rw [bc_congr (e4 p)]; exact hp0) (by rw [wt_congr (e4 p)]; exact hg.2.1)
    rw [bc_congr (e4 p)] at h1
    omega
  have hge : m ≤ f1 W x w fe 99 := by
    rcases f1_ex (W := W) (x := x) (w := w) (fe := fe) (B := 99) with h | ⟨a, b, c, e, h1, h2, h3, h4, h5, h6, h7⟩
    · omega
    · have hp : ∀ k, k < 4 → v4 a b c e k ≤ dv x k := all4 h1 h2 h3 h4
      have := isF_up hm hp h6 (below _ hp h5)
      omega
  have e : f1 W x w fe 99 = m := Nat.le_antisymm hle hge
  rw [e]
  exact ⟨hm, hm24⟩
end LM
def MOk (W n : Nat) (w q : Nat → Nat) : Prop := n ≤ 4 ∧ 0 < W ∧ W ≤ 60 ∧ (∀ k, k < n → 1 ≤ w k ∧ w k ≤ W) ∧ ∀ k, k < n → q k ≤ 6
/-- what the reference knows once it has learnt -/
def Known (W n : Nat) (w q fe pn : Nat → Nat) (pd : Nat) : Prop := IsF W (qn n w) (qn n q) pd ∧ pd ≤ 24 ∧ PlanOK W n (qn n w) (qn n q) pd pn ∧ ∀ v : Nat → Nat, (∀ k, k < 4 → v k ≤ qn n q k) → IsF W (qn n w) v (fe (bcN v)) ∧ fe (bcN v) ≤ 24
section LEARN
variable {c : Nat → PC} {W n : Nat} {w q fe pn : Nat → Nat} {pd : Nat} {ik : Int32} {D : Nat → Int32} {G : SG} {d : Nat}
theorem qn_le (h : MOk W n w q) : ∀ k, k < 4 → qn n q k ≤ 6 := fun k _ => by
  unfold qn
  split
  · rename_i e
    exact h.2.2.2.2 k e
  · exact Nat.zero_le _
theorem wn_le (h : MOk W n w q) : ∀ k, k < 4 → qn n w k ≤ 60 := fun k _ => by
  unfold qn
  split
  · rename_i e
    exact Nat.le_trans (h.2.2.2.1 k e).2 h.2.2.1
  · exact Nat.zero_le _
theorem wn_W (h : MOk W n w q) (k : Nat) : qn n w k ≤ W := by
  unfold qn
  split
  · rename_i e
    exact (h.2.2.2.1 k e).2
  · exact Nat.zero_le _
set_option maxHeartbeats 8000000 in
set_option maxRecDepth 100000 in
theorem m_learn (ok : MOk W n w q) (hfe : ∀ j, j < 2401 → fe j ≤ 99) (hk : ik = 0 ∨ (ik = 1 ∧ Known W n w q fe pn pd)) (hd : 2 ≤ d) : Con yX6_learn cX6_learn 5 none d [.ref 22] (hM c (jJ W n w q) (iN fe, iN pn, nI pd, ik) D G) (fun r h' => r = none ∧ ∃ fe' pn' pd', (∀ j, j < 2401 → fe' j ≤ 99) ∧ Known W n w q fe' pn' pd' ∧ h' = hM c (jJ W n w q) (iN fe', iN pn', nI pd', 1) D G) := by
  have hn := ok.1
  have hq6 := qn_le ok
  have hw60 := wn_le ok
  have hall := bc_lt hq6
  refine con_of [(0, .ref 22)] (by decide) (fun _ => Nat.le_of_ble_eq_true rfl) (fun _ => rfl) (fun X C E => ?_)
  refine v_aload_n C dX6_learn_0 rfl ?_
  refine v_get C dX6_learn_1 fl_X6_45 rfl rfl ?_
  rcases hk with rfl | ⟨rfl, hK⟩
  case inr =>
    refine v_if_eq C 8 dX6_learn_4 (by decide) (fun z => absurd z (by show ¬ (1 : Int32) = 0; decide)) (fun _ => ?_)
    exact v_vret C E dX6_learn_7 ⟨rfl, fe, pn, pd, hfe, hK, rfl⟩
  refine v_if_eq C 8 dX6_learn_4 (by decide) (fun _ => ?_) (fun z => absurd rfl z)
  -- the plan
  have plan : ∀ (fe : Nat → Nat), (∀ j, j < 2401 → fe j ≤ 99) → (∀ v : Nat → Nat, (∀ k, k < 4 → v k ≤ qn n q k) → IsF W (qn n w) v (fe (bcN v)) ∧ fe (bcN v) ≤ 24) →
      ∀ (m i : Nat) (pn v : Nat → Nat), (∀ k, k < 4 → v k ≤ qn n q k) → fe (bcN v) = m → i + m = fe (bcN (qn n q)) →
      (∃ vs : Nat → Nat → Nat, eq4 (vs 0) (qn n q) ∧ eq4 (vs i) v ∧ ∀ j, j < i → Best W n (qn n w) (vs j) (fun k => pn (4 * j + k)) ∧ eq4 (vs (j + 1)) (vsub (vs j) (fun k => pn (4 * j + k)))) →
      V 5 X (hM c (jJ W n w q) (iN fe, iN pn, nI i, 1) D G) 70 [(0, .ref 22), (1, .int (nI (bcN (qn n q)))), (2, .int (nI (bcN v)))] [] := by
    intro fe hfe hF m
    induction m with
    | zero =>
      intro i pn v hv hm hi hvs
      obtain ⟨vs, v1, v2, v3⟩ := hvs
      obtain ⟨h1, h2⟩ := hF v hv
      have hz := isF_pos h1 hm
      have hb0 : bcN v = 0 := by unfold bcN; rw [hz 0 (by omega), hz 1 (by omega), hz 2 (by omega), hz 3 (by omega)]
      obtain ⟨g1, g2⟩ := hF (qn n q) (fun _ _ => Nat.le_refl _)
      refine v_iload_n C dX6_learn_70 rfl ?_
      refine v_if_le C 170 dX6_learn_71 (by decide) (fun _ => ?_) (fun q => absurd ((by rw [hb0]; decide)) q)
      refine v_vret C E dX6_learn_170 ⟨rfl, fe, pn, i, hfe, ⟨?_, ?_, ⟨vs, v1, v3⟩, hF⟩, rfl⟩
      · rw [show i = fe (bcN (qn n q)) by omega]; exact g1
      · omega
    | succ m ih =>
      intro i pn v hv hm hi hvs
      obtain ⟨vs, v1, v2, v3⟩ := hvs
      obtain ⟨h1, h2⟩ := hF v hv
      obtain ⟨g1, g2⟩ := hF (qn n q) (fun _ _ => Nat.le_refl _)
      have hv6 : ∀ k, k < 4 → v k ≤ 6 := fun k hk => Nat.le_trans (hv k hk) (hq6 k hk)
      have hvl := bc_lt hv6
      have hdv := dv_bc hv6
      have hvp : 0 < bcN v := Nat.pos_of_ne_zero (fun z => by
        have hz : ∀ k, k < 4 → v k = 0 := by
          unfold bcN at z
          apply all4 <;> omega
        have := h1.2 0 hz
        omega)
      obtain ⟨g, hg⟩ := isF_gd_ex (n := n) h1 (by omega)
      have gb : ∀ g, Gd W n (qn n w) v g → 0 < bcN g ∧ ∀ k, k < 4 → g k ≤ 6 := by
        intro g hg
        refine ⟨Nat.pos_of_ne_zero (fun z => ?_), fun k hk => Nat.le_trans (hg.1 k hk) (hv6 k hk)⟩
        obtain ⟨-, -, k, h3, h4⟩ := hg
        apply h4
        refine pk_congr k (fun j hj => ?_) h3
        show v j - g j = v j
        unfold bcN at z
        have : g j = 0 := by
          match j, hj with
          | 0, _ => omega
          | 1, _ => omega
          | 2, _ => omega
          | 3, _ => omega
        omega
      refine v_iload_n C dX6_learn_70 rfl ?_
      refine v_if_le C 170 dX6_learn_71 (by decide) (fun q => absurd q (nI_nle hvp (by omega))) (fun _ => ?_)
      refine v_iload_n C dX6_learn_74 rfl ?_
      refine v_istore_n C dX6_learn_75 (by decide) ?_
      -- one roll found
      have found : ∀ p, p < 2401 → Best W n (qn n w) v (dv p) → V 5 X (hM c (jJ W n w q) (iN fe, iN pn, nI i, 1) D G) 118 [(0, .ref 22), (1, .int (nI (bcN (qn n q)))), (2, .int (nI (bcN v))), (3, .int (nI p))] [] := by
        intro p hp hB
        have hpb := bc_dv hp
        have hpv : p ≤ bcN v := by rw [← hpb]; exact bc_le hB.1.1
        have rows : ∀ (m k : Nat) (pn' : Nat → Nat), k + m = 4 → (∀ j, j < k → pn' (4 * i + j) = dv p j) → (∀ j, j < 4 * i → pn' j = pn j) → V 5 X (hM c (jJ W n w q) (iN fe, iN pn', nI i, 1) D G) 121 [(0, .ref 22), (1, .int (nI (bcN (qn n q)))), (2, .int (nI (bcN v))), (3, .int (nI p)), (4, .int (nI k))] [] := by
          intro m'
          induction m' with
          | zero =>
            intro k pn' hk hp1 hp2
            obtain rfl : k = 4 := by omega
            refine v_iload C dX6_learn_121 rfl ?_
            refine v_iconst C (4) dX6_learn_123 (by decide) ?_
            refine v_icmp_ge C 153 dX6_learn_124 (by decide) (fun _ => ?_) (fun q => absurd (nI_le (a := 4) (b := 4) (by omega) (by omega)) q)
            refine v_aload_n C dX6_learn_153 rfl ?_
            refine v_dup C dX6_learn_154 rfl ?_
            refine v_get C dX6_learn_155 fl_X6_80 rfl rfl ?_
            refine v_iconst C (1) dX6_learn_158 (by decide) ?_
            refine v_iadd C dX6_learn_159 ?_
            refine v_put C dX6_learn_160 fp_X6_80 rfl (fun _ => rfl) (fun _ => rfl) (Nat.le_of_ble_eq_true rfl) ?_
            refine v_iload_n C dX6_learn_163 rfl ?_
            refine v_iload_n C dX6_learn_164 rfl ?_
            refine v_isub C dX6_learn_165 ?_
            refine v_istore_n C dX6_learn_166 (by decide) ?_
            refine v_goto C 70 dX6_learn_167 (by decide) ?_
            have ep : eq4 (dv p) (fun k => pn' (4 * i + k)) := fun k hk => (hp1 k hk).symm
            have ec : ∀ j, j < i → eq4 (fun k => pn (4 * j + k)) (fun k => pn' (4 * j + k)) := fun j hj k hk => (hp2 (4 * j + k) (by omega)).symm
            have hsb := bc_sub hB.1.1
            rw [hpb] at hsb
            have hvs' : ∀ k, k < 4 → vsub v (dv p) k ≤ qn n q k := fun k hk => Nat.le_trans (Nat.sub_le _ _) (hv k hk)
            have hgi := (isF_gd (n := n) h1 (hF _ hvs').1).mp hB.1
            refine v_keep [0, 1, 2] (v_eq (ih (i + 1) pn' (vsub v (dv p)) hvs' (by omega) (by omega) ?_) ?_ rfl ?_ rfl)
            · refine ⟨fun j => if j ≤ i then vs j else vsub v (dv p), ?_, ?_, fun j hj => ?_⟩
              · show eq4 (if 0 ≤ i then vs 0 else vsub v (dv p)) (qn n q)
                rw [if_pos (Nat.zero_le i)]; exact v1
              · show eq4 (if i + 1 ≤ i then vs (i + 1) else vsub v (dv p)) (vsub v (dv p))
                rw [if_neg (by omega)]; exact fun _ _ => rfl
              · show Best W n (qn n w) (if j ≤ i then vs j else vsub v (dv p)) _ ∧ eq4 (if j + 1 ≤ i then vs (j + 1) else vsub v (dv p)) (vsub (if j ≤ i then vs j else vsub v (dv p)) _)
                rw [if_pos (by omega)]
                by_cases e : j = i
                · subst e
                  rw [if_neg (by omega)]
                  refine ⟨⟨gd_congr (fun k hk => (v2 k hk).symm) ep hB.1, fun g hg => ?_⟩, fun k hk => ?_⟩
                  · rcases hB.2 g (gd_congr v2 (fun _ _ => rfl) hg) with h | h
                    · exact Or.inl (ltx_congr (fun _ _ => rfl) ep h)
                    · exact Or.inr (fun k hk => (h k hk).trans (ep k hk))
                  · show v k - dv p k = vs j k - pn' (4 * j + k)
                    rw [v2 k hk, hp1 k hk]
                · rw [if_pos (by omega)]
                  obtain ⟨b1, b2⟩ := v3 j (by omega)
                  refine ⟨⟨gd_congr (fun _ _ => rfl) (ec j (by omega)) b1.1, fun g hg => ?_⟩, fun k hk => ?_⟩
                  · rcases b1.2 g hg with h | h
                    · exact Or.inl (ltx_congr (fun _ _ => rfl) (ec j (by omega)) h)
                    · exact Or.inr (fun k hk => (h k hk).trans (ec j (by omega) k hk))
                  · rw [b2 k hk]
                    show vs j k - pn (4 * j + k) = vs j k - pn' (4 * j + k)
                    rw [hp2 (4 * j + k) (by omega)]
            · exact congrArg (fun z => hM c (jJ W n w q) (iN fe, iN pn', z, 1) D G) (nI_1 i)
            · show [(0, Value.ref 22), (1, .int (nI (bcN (qn n q)))), (2, .int (nI (bcN v) - nI p))] = _
              rw [pk_sub hpv, hsb]
          | succ m' ih' =>
            intro k pn' hk hp1 hp2
            refine v_iload C dX6_learn_121 rfl ?_
            refine v_iconst C (4) dX6_learn_123 (by decide) ?_
            refine v_icmp_ge C 153 dX6_learn_124 (by decide) (fun q => absurd q (nI_ge (b := 4) (by omega) (by omega))) (fun _ => ?_)
            refine v_aload_n C dX6_learn_127 rfl ?_
            refine v_get C dX6_learn_128 fl_X6_23 rfl rfl ?_
            refine v_iconst C (4) dX6_learn_131 (by decide) ?_
            refine v_aload_n C dX6_learn_132 rfl ?_
            refine v_get C dX6_learn_133 fl_X6_80 rfl rfl ?_
            refine v_imul C dX6_learn_136 ?_
            refine v_iload C dX6_learn_137 rfl ?_
            refine v_iadd C dX6_learn_139 ?_
            refine v_iload_n C dX6_learn_140 rfl ?_
            refine v_iload C dX6_learn_141 rfl ?_
            refine v_callS C dX6_learn_143 lk_X6_58 (m_digit (d := 0) p k hp (by omega)) (by omega) rfl rfl (Nat.le_of_ble_eq_true rfl) ?_
            rintro r h' ⟨rfl, rfl⟩
            refine v_iast C (4 * i + k) dX6_learn_146 rfl (by show nI 4 * nI i + nI k = _; rw [pk_mul, nI_add]) (by omega) (by decide) ?_
            refine v_iinc C dX6_learn_147 rfl (nI_1 k) (by decide) ?_
            refine v_goto C 121 dX6_learn_150 (by decide) ?_
            refine v_eq (ih' (k + 1) (va_up pn' (4 * i + k) (dv p k)) (by omega) (fun j hj => ?_) (fun j hj => ?_)) (congrArg (fun z => hM c (jJ W n w q) (iN fe, z, nI i, 1) D G) (upd_iN _ _ _)) rfl rfl rfl
            · unfold va_up
              by_cases e : j = k
              · rw [e, if_pos rfl]
              · rw [if_neg (by omega)]
                exact hp1 j (by omega)
            · unfold va_up
              rw [if_neg (by omega)]
              exact hp2 j hj
        refine v_iconst C (0) dX6_learn_118 (by decide) ?_
        refine v_istore C dX6_learn_119 (by decide) ?_
        exact rows 4 0 pn rfl (fun j hj => absurd hj (Nat.not_lt_zero j)) (fun _ _ => rfl)
      -- the search from the greatest code down
      have seek : ∀ (p : Nat), p ≤ bcN v → (∀ g, Gd W n (qn n w) v g → bcN g ≤ p) → V 5 X (hM c (jJ W n w q) (iN fe, iN pn, nI i, 1) D G) 76 [(0, .ref 22), (1, .int (nI (bcN (qn n q)))), (2, .int (nI (bcN v))), (3, .int (nI p))] [] := by
        intro p
        induction p with
        | zero =>
          intro _ hmax
          have := hmax g hg
          have := (gb g hg).1
          omega
        | succ p ihp =>
          intro hpv hmax
          have hp : p + 1 < 2401 := by omega
          have hpb := bc_dv hp
          have next : ¬ Gd W n (qn n w) v (dv (p + 1)) → V 5 X (hM c (jJ W n w q) (iN fe, iN pn, nI i, 1) D G) 112 [(0, .ref 22), (1, .int (nI (bcN (qn n q)))), (2, .int (nI (bcN v))), (3, .int (nI (p + 1)))] [] := by
            intro hno
            refine v_iinc C dX6_learn_112 rfl (pk_m1 p) (by decide) ?_
            refine v_goto C 76 dX6_learn_115 (by decide) ?_
            refine ihp (by omega) (fun g hg => ?_)
            have h5 := hmax g hg
            have h6 : bcN g ≠ p + 1 := fun z => by
              rw [← hpb] at z
              exact hno (gd_congr (fun _ _ => rfl) (bc_eq (fun k _ => dv_le _ k) (gb g hg).2 z) hg)
            omega
          refine v_aload_n C dX6_learn_76 rfl ?_
          refine v_iload_n C dX6_learn_77 rfl ?_
          refine v_iload_n C dX6_learn_78 rfl ?_
          refine v_callV C dX6_learn_79 lk_X6_73 (m_isWithin (d := 1) (p + 1) (bcN v) hp hvl (by decide)) (by omega) rfl rfl rfl rfl rfl (Nat.le_of_ble_eq_true rfl) ?_
          rintro r h' ⟨hr, rfl⟩
          rcases hr with ⟨rfl, hin⟩ | ⟨rfl, hin⟩
          case inr =>
            refine v_if_eq C 112 dX6_learn_82 (by decide) (fun _ => ?_) (fun z => absurd rfl z)
            exact next (fun z => hin (fun k hk => by rw [hdv k hk]; exact z.1 k hk))
          refine v_if_eq C 112 dX6_learn_82 (by decide) (fun z => absurd z (by decide)) (fun _ => ?_)
          have hin2 : ∀ k, k < 4 → dv (p + 1) k ≤ v k := fun k hk => by rw [← hdv k hk]; exact hin k hk
          refine v_aload_n C dX6_learn_85 rfl ?_
          refine v_iload_n C dX6_learn_86 rfl ?_
          refine v_callV C dX6_learn_87 lk_X6_83 (m_fits (d := 1) (p + 1) hp hn ok.2.2.1 hw60 (by decide)) (by omega) rfl rfl rfl rfl rfl (Nat.le_of_ble_eq_true rfl) ?_
          rintro r h' ⟨hr, rfl⟩
          rcases hr with ⟨rfl, hft⟩ | ⟨rfl, hft⟩
          case inr =>
            refine v_if_eq C 112 dX6_learn_90 (by decide) (fun _ => ?_) (fun z => absurd rfl z)
            exact next (fun z => hft z.2.1)
          refine v_if_eq C 112 dX6_learn_90 (by decide) (fun z => absurd z (by decide)) (fun _ => ?_)
          refine v_aload_n C dX6_learn_93 rfl ?_
          refine v_get C dX6_learn_94 fl_X6_20 rfl rfl ?_
          refine v_iload_n C dX6_learn_97 rfl ?_
          refine v_iload_n C dX6_learn_98 rfl ?_
          refine v_isub C dX6_learn_99 ?_
          refine v_iald C (bcN v - (p + 1)) dX6_learn_100 rfl (pk_sub hpv) (by omega) (by decide) ?_
          refine v_iconst C (1) dX6_learn_101 (by decide) ?_
          refine v_iadd C dX6_learn_102 ?_
          refine v_aload_n C dX6_learn_103 rfl ?_
          refine v_get C dX6_learn_104 fl_X6_20 rfl rfl ?_
          refine v_iload_n C dX6_learn_107 rfl ?_
          refine v_iald C (bcN v) dX6_learn_108 rfl rfl hvl (by decide) ?_
          have hsb := bc_sub hin2
          rw [hpb] at hsb
          have hvs' : ∀ k, k < 4 → vsub v (dv (p + 1)) k ≤ qn n q k := fun k hk => Nat.le_trans (Nat.sub_le _ _) (hv k hk)
          have hgi := isF_gd (n := n) (p := dv (p + 1)) h1 (hF _ hvs').1
          have hl1 := hfe (bcN v - (p + 1)) (by omega)
          refine v_eq (st' := [.int (nI (fe (bcN v))), .int (nI (fe (bcN v - (p + 1)) + 1))]) ?_ rfl rfl rfl (by show [Value.int (nI (fe (bcN v))), .int (nI (fe (bcN v - (p + 1))) + nI 1)] = _; rw [nI_add])
          by_cases heq : fe (bcN v - (p + 1)) + 1 = fe (bcN v)
          · refine v_icmp_eq C 118 dX6_learn_109 (by decide) (fun _ => ?_) (fun q => absurd (congrArg nI heq) q)
            rw [hsb] at heq
            have hG : Gd W n (qn n w) v (dv (p + 1)) := hgi.mpr ⟨hin2, hft, heq⟩
            refine found (p + 1) hp ⟨hG, fun g hg => ?_⟩
            have h5 := hmax g hg
            by_cases e5 : bcN g = p + 1
            · rw [← hpb] at e5
              exact Or.inr (bc_eq (fun k _ => dv_le _ k) (gb g hg).2 e5)
            · exact Or.inl (bc_ltx (fun k _ => dv_le _ k) (gb g hg).2 (by rw [hpb]; omega))
          · refine v_icmp_eq C 118 dX6_learn_109 (by decide) (fun q => absurd q ((fun z => heq ((nI_eq (by omega) (by omega)).mp z)))) (fun _ => ?_)
            refine next (fun z => heq ?_)
            rw [hsb]
            exact (hgi.mp z).2.2
      exact seek (bcN v) (Nat.le_refl _) (fun g hg => bc_le hg.1)
  -- the table
  have table : ∀ (m x : Nat) (fe : Nat → Nat), x + m = bcN (qn n q) + 1 → 0 < x → (∀ j, j < 2401 → fe j ≤ 99) → (∀ v : Nat → Nat, (∀ k, k < 4 → v k ≤ qn n q k) → bcN v < x → IsF W (qn n w) v (fe (bcN v)) ∧ fe (bcN v) ≤ 24) →
      V 5 X (hM c (jJ W n w q) (iN fe, iN pn, nI pd, 1) D G) 27 [(0, .ref 22), (1, .int (nI (bcN (qn n q)))), (2, .int (nI x))] [] := by
    intro m
    induction m with
    | zero =>
      intro x fe hx hx0 hfe hF
      obtain ⟨g1, g2⟩ := hF (qn n q) (fun _ _ => Nat.le_refl _) (by omega)
      refine v_iload_n C dX6_learn_27 rfl ?_
      refine v_iload_n C dX6_learn_28 rfl ?_
      refine v_icmp_gt C 63 dX6_learn_29 (by decide) (fun _ => ?_) (fun q => absurd (nI_lt (by omega) (by omega)) q)
      refine v_aload_n C dX6_learn_63 rfl ?_
      refine v_iconst C (0) dX6_learn_64 (by decide) ?_
      refine v_put C dX6_learn_65 fp_X6_80 rfl (fun _ => rfl) (fun _ => rfl) (Nat.le_of_ble_eq_true rfl) ?_
      refine v_iload_n C dX6_learn_68 rfl ?_
      refine v_istore_n C dX6_learn_69 (by decide) ?_
      exact plan fe hfe (fun v hv => hF v hv (by have := bc_le hv; omega)) (fe (bcN (qn n q))) 0 pn (qn n q) (fun _ _ => Nat.le_refl _) rfl (Nat.zero_add _) ⟨fun _ => qn n q, fun _ _ => rfl, fun _ _ => rfl, fun j hj => absurd hj (Nat.not_lt_zero j)⟩
    | succ m ih =>
      intro x fe hx hx0 hfe hF
      have hx2 : x < 2401 := by omega
      have hxb := bc_dv hx2
      have hdq := dv_bc hq6
      have put : ∀ R, R ≤ 99 → ((∀ k, k < 4 → dv x k ≤ qn n q k) → IsF W (qn n w) (dv x) R ∧ R ≤ 24) → V 5 X (hM c (jJ W n w q) (iN fe, iN pn, nI pd, 1) D G) 56 [(0, .ref 22), (1, .int (nI (bcN (qn n q)))), (2, .int (nI x))] [.int (nI R), .int (nI x), .ref 25] := by
        intro R hR hRF
        refine v_iast C x dX6_learn_56 rfl rfl hx2 (by decide) ?_
        refine v_iinc C dX6_learn_57 rfl (nI_1 x) (by decide) ?_
        refine v_goto C 27 dX6_learn_60 (by decide) ?_
        refine v_eq (ih (x + 1) (va_up fe x R) (by omega) (by omega) (fun j hj => ?_) (fun v hv hvx => ?_)) (congrArg (fun z => hM c (jJ W n w q) (z, iN pn, nI pd, 1) D G) (upd_iN _ _ _)) rfl rfl rfl
        · unfold va_up
          split
          · exact hR
          · exact hfe j hj
        · unfold va_up
          by_cases e : bcN v = x
          · rw [if_pos e]
            have hv6 : ∀ k, k < 4 → v k ≤ 6 := fun k hk => Nat.le_trans (hv k hk) (hq6 k hk)
            have hev : eq4 (dv x) v := by rw [← e]; exact dv_bc hv6
            obtain ⟨a1, a2⟩ := hRF (fun k hk => by rw [hev k hk]; exact hv k hk)
            exact ⟨isF_congr hev a1, a2⟩
          · rw [if_neg e]
            exact hF v hv (by omega)
      refine v_iload_n C dX6_learn_27 rfl ?_
      refine v_iload_n C dX6_learn_28 rfl ?_
      refine v_icmp_gt C 63 dX6_learn_29 (by decide) (fun q => absurd q (nI_nlt (by omega) (by omega))) (fun _ => ?_)
      refine v_aload_n C dX6_learn_32 rfl ?_
      refine v_get C dX6_learn_33 fl_X6_20 rfl rfl ?_
      refine v_iload_n C dX6_learn_36 rfl ?_
      refine v_aload_n C dX6_learn_37 rfl ?_
      refine v_iload_n C dX6_learn_38 rfl ?_
      refine v_iload_n C dX6_learn_39 rfl ?_
      refine v_callV C dX6_learn_40 lk_X6_73 (m_isWithin (d := 1) x (bcN (qn n q)) hx2 hall (by decide)) (by omega) rfl rfl rfl rfl rfl (Nat.le_of_ble_eq_true rfl) ?_
      rintro r h' ⟨hr, rfl⟩
      rcases hr with ⟨rfl, hin⟩ | ⟨rfl, hin⟩
      · refine v_if_eq C 54 dX6_learn_43 (by decide) (fun z => absurd z (by decide)) (fun _ => ?_)
        refine v_aload_n C dX6_learn_46 rfl ?_
        refine v_iload_n C dX6_learn_47 rfl ?_
        refine v_callV C dX6_learn_48 lk_X6_77 (m_fewestOf (d := 1) x hx2 hn ok.2.2.1 hw60 hfe (by decide)) (by omega) rfl rfl rfl rfl rfl (Nat.le_of_ble_eq_true rfl) ?_
        rintro r h' ⟨rfl, rfl⟩
        refine v_goto C 56 dX6_learn_51 (by decide) ?_
        have hR := f1_isF (W := W) (w := qn n w) (fe := fe) hx2 hx0 (fun k _ _ => wn_W ok k) (fun u hu hux => (hF u (fun k hk => by
          have := hu k hk
          have := hin k hk
          rw [hdq k hk] at this
          omega) hux).1)
        exact put _ (by omega) (fun _ => hR)
      · refine v_if_eq C 54 dX6_learn_43 (by decide) (fun _ => ?_) (fun z => absurd rfl z)
        refine v_bipush C (99) dX6_learn_54 (by decide) ?_
        exact put 99 (by decide) (fun z => absurd (fun k hk => by rw [hdq k hk]; exact z k hk) hin)
  refine v_aload_n C dX6_learn_8 rfl ?_
  refine v_iconst C (1) dX6_learn_9 (by decide) ?_
  refine v_put C dX6_learn_10 fp_X6_45 rfl (fun _ => rfl) (fun _ => rfl) (Nat.le_of_ble_eq_true rfl) ?_
  refine v_aload_n C dX6_learn_13 rfl ?_
  refine v_callV C dX6_learn_14 lk_X6_69 (m_all (d := 1) (c := c) (W := W) (w := w) (q := q) (Q := (iN fe, iN pn, nI pd, 1)) (D := D) (G := G) hn (by decide)) (by omega) rfl rfl rfl rfl rfl (Nat.le_of_ble_eq_true rfl) ?_
  rintro r h' ⟨rfl, rfl⟩
  refine v_istore_n C dX6_learn_17 (by decide) ?_
  refine v_aload_n C dX6_learn_18 rfl ?_
  refine v_get C dX6_learn_19 fl_X6_20 rfl rfl ?_
  refine v_iconst C (0) dX6_learn_22 (by decide) ?_
  refine v_iconst C (0) dX6_learn_23 (by decide) ?_
  refine v_iast C 0 dX6_learn_24 rfl rfl (by decide) (by decide) ?_
  refine v_iconst C (1) dX6_learn_25 (by decide) ?_
  refine v_istore_n C dX6_learn_26 (by decide) ?_
  refine v_eq (table (bcN (qn n q)) 1 (va_up fe 0 0) (by omega) (by decide) (fun j hj => ?_) (fun v hv hvx => ?_)) (congrArg (fun z => hM c (jJ W n w q) (z, iN pn, nI pd, 1) D G) (upd_iN fe 0 0)) rfl rfl rfl
  · unfold va_up
    split
    · decide
    · exact hfe j hj
  · have hb0 : bcN v = 0 := by omega
    rw [hb0, show va_up fe 0 0 0 = 0 from if_pos rfl]
    refine ⟨isF_0 ?_, by decide⟩
    unfold bcN at hb0
    apply all4 <;> omega
end LEARN
