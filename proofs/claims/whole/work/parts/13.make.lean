/-! Plan.make, pieces -/
theorem nI_surj (x : Int32) : ∃ g : Nat, x = nI g := ⟨x.toBitVec.toNat, Int32.toBitVec_inj.mp (by simp [nI])⟩
theorem iN_of (f : Nat → Int32) (m : Nat) (g0 : Nat → Nat) (h : ∀ i, i < m → f i = nI (g0 i)) : ∃ g : Nat → Nat, f = iN g ∧ ∀ i, i < m → g i = g0 i := by
  refine ⟨fun i => if i < m then g0 i else (nI_surj (f i)).choose, ?_, fun i hi => if_pos hi⟩
  funext i
  unfold iN
  dsimp only
  by_cases e : i < m
  · rw [if_pos e]
    exact h i e
  · rw [if_neg e]
    exact (nI_surj (f i)).choose_spec
def Ok (W n : Nat) (w l : Nat → Nat) : Prop := n ≤ 4 ∧ 0 < W ∧ W ≤ 60 ∧ (∀ k, k < n → 1 ≤ w k ∧ w k ≤ W) ∧ LInv W n w l
def fr (W : Nat) (l v : Nat → Nat) : Nat := cl W (l (cdN v 4))
def Best (W n : Nat) (w v p : Nat → Nat) : Prop := Gd W n w v p ∧ ∀ g, Gd W n w v g → LtX g p 4 ∨ eq4 g p
def PlanOK (W n : Nat) (w v : Nat → Nat) (m : Nat) (cu : Nat → Nat) : Prop := ∃ vs : Nat → Nat → Nat, eq4 (vs 0) v ∧ ∀ i, i < m → Best W n w (vs i) (fun k => cu (4 * i + k)) ∧ eq4 (vs (i + 1)) (vsub (vs i) (fun k => cu (4 * i + k)))
section MAKE
variable {W n : Nat} {w q l cu re pa : Nat → Nat} {sd : Int32} {N : SN} {F : SF} {tl : List PC} {d : Nat}
theorem fr_iff (ok : Ok W n w l) {v : Nat → Nat} (hc : Cnt n v) {m : Nat} : Pk W w m v ↔ fr W l v ≤ m :=
  ⟨fun h => pkk_least ok.1 ok.2.1 ok.2.2.2.1 ok.2.2.2.2 hc h, fun h => pk_mono h (pkk_made ok.1 ok.2.1 ok.2.2.1 ok.2.2.2.1 ok.2.2.2.2 hc)⟩
theorem fr_congr {v v' : Nat → Nat} (e : eq4 v v') : fr W l v = fr W l v' := by
  unfold fr
  rw [cdN_congr e]
theorem gd_iff (ok : Ok W n w l) {v p : Nat → Nat} (hc : Cnt n v) : Gd W n w v p ↔ (∀ k, k < 4 → p k ≤ v k) ∧ wt w p ≤ W ∧ fr W l (vsub v p) < fr W l v := by
  constructor
  · rintro ⟨h1, h2, m, h3, h4⟩
    refine ⟨h1, h2, ?_⟩
    have h5 := (fr_iff ok (cnt_sub hc)).mp h3
    have h6 : ¬ fr W l v ≤ m := fun z => h4 ((fr_iff ok hc).mpr z)
    omega
  · rintro ⟨h1, h2, h3⟩
    exact ⟨h1, h2, fr W l (vsub v p), (fr_iff ok (cnt_sub hc)).mpr (Nat.le_refl _), fun z => by have := (fr_iff ok hc).mp z; omega⟩
theorem gd_one (ok : Ok W n w l) {v p : Nat → Nat} (hc : Cnt n v) (h : Gd W n w v p) : fr W l (vsub v p) + 1 = fr W l v := by
  have h1 := (gd_iff ok hc).mp h
  have h2 : Pk W w (fr W l (vsub v p) + 1) v := ⟨p, h.1, h.2.1, (fr_iff ok (cnt_sub hc)).mpr (Nat.le_refl _)⟩
  have h3 := (fr_iff ok hc).mp h2
  omega
theorem gd_ex (ok : Ok W n w l) {v : Nat → Nat} (hc : Cnt n v) (h : 0 < fr W l v) : ∃ p, Gd W n w v p := by
  have h1 : Pk W w (fr W l v) v := (fr_iff ok hc).mpr (Nat.le_refl _)
  obtain ⟨m, hm⟩ : ∃ m, fr W l v = m + 1 := ⟨fr W l v - 1, by omega⟩
  rw [hm] at h1
  obtain ⟨p, a, b, c⟩ := h1
  exact ⟨p, a, b, m, c, fun z => by have := (fr_iff ok hc).mp z; omega⟩
theorem fr_sz (ok : Ok W n w l) {v : Nat → Nat} (hc : Cnt n v) : fr W l v ≤ sz4 v := by
  obtain ⟨m, s, h1, h2, h3, h4⟩ := reach_made ok.1 ok.2.1 ok.2.2.1 ok.2.2.2.1 ok.2.2.2.2 (sz4 v) v rfl hc
  by_cases hz : sz4 v = 0
  · have := h4 hz
    refine (fr_iff ok hc).mp (pk_mono (Nat.zero_le _) (m := 0) (fun k hk => ?_))
    unfold sz4 at hz
    match k, hk with
    | 0, _ => omega
    | 1, _ => omega
    | 2, _ => omega
    | 3, _ => omega
  · exact (fr_iff ok hc).mp (pk_mono (h3 (by omega)).1 (pk_of_re h1))
theorem fr_24 (ok : Ok W n w l) {v : Nat → Nat} (hc : Cnt n v) : fr W l v ≤ 24 := by
  have h := fr_sz ok hc
  have a0 := hc.1 0 (by omega)
  have a1 := hc.1 1 (by omega)
  have a2 := hc.1 2 (by omega)
  have a3 := hc.1 3 (by omega)
  unfold sz4 at h
  omega
theorem not_zero (ok : Ok W n w l) {v g : Nat → Nat} (hc : Cnt n v) (h : Gd W n w v g) : ¬ ∀ k, k < 4 → g k = 0 := by
  intro z
  have h1 := (gd_iff ok hc).mp h
  have h2 : fr W l (vsub v g) = fr W l v := fr_congr (fun k hk => by show v k - g k = v k; rw [z k hk]; omega)
  omega
set_option maxHeartbeats 4000000 in
set_option maxRecDepth 100000 in
theorem c_make (ok : Ok W n w l) (hq : Cnt n q) (hd : 3 ≤ d) : Con yX3_make cX3_make 4 none d [.ref 6] (hC (jJ W n w q) (iN l) (pP sd cu re pa) N F tl) (fun r h' => r = none ∧ ∃ cu' re' pa' : Nat → Nat, PlanOK W n w q (fr W l q) cu' ∧ h' = hC (jJ W n w q) (iN l) (pP 1 cu' re' pa') N F tl) := by
  obtain ⟨hn, hW, hW2, hw, hl⟩ := id ok
  have hw1 : ∀ k, k < n → 1 ≤ w k := fun k hk => (hw k hk).1
  have hw6 : ∀ k, k < n → 1 ≤ w k ∧ w k ≤ 60 := fun k hk => ⟨(hw k hk).1, Nat.le_trans (hw k hk).2 hW2⟩
  have hq24 := fr_24 ok hq
  refine con_of [(0, .ref 6)] (by decide) (fun _ => Nat.le_of_ble_eq_true rfl) (fun _ => rfl) (fun X C E => ?_)
  -- the search for one roll
  have inner : ∀ (m t i : Nat) (cu re pa : Nat → Nat), bcN pa ≤ m → bcN pa + t ≤ 2400 → Cnt n re → Pat W n w pa → (∀ g, Gd W n w re g → LtX g pa 4 ∨ eq4 g pa) → 0 < fr W l re →
      (∀ pa' : Nat → Nat, Pat W n w pa' → Best W n w re pa' → V 4 X (hC (jJ W n w q) (iN l) (pP sd cu re pa') N F tl) 80 [(0, .ref 6), (1, .int (nI (fr W l q))), (2, .int (nI i))] []) →
      V 4 X (hC (jJ W n w q) (iN l) (pP sd cu re pa) N F tl) 54 [(0, .ref 6), (1, .int (nI (fr W l q))), (2, .int (nI i)), (3, .int (nI t))] [] := by
    intro m
    induction m with
    | zero =>
      intro t i cu re pa hm ht hre hpa hall hpos _
      obtain ⟨g, hg⟩ := gd_ex ok hre hpos
      have hgp := gd_pat hn hre hg
      exfalso
      have hg0 : bcN g = 0 := by
        rcases hall g hg with h | h
        · have := ltx_bc hgp.1.1 h; omega
        · have : bcN g = bcN pa := by unfold bcN; rw [h 0 (by omega), h 1 (by omega), h 2 (by omega), h 3 (by omega)]
          omega
      apply not_zero ok hre hg
      unfold bcN at hg0
      apply all4 <;> omega
    | succ m ih =>
      intro t i cu re pa hm ht hre hpa hall hpos kk
      refine v_iload_n C dX3_make_54 rfl ?_
      refine v_getSN C dX3_make_55 (fun _ q => q.1) ?_
      refine v_iconst C (4) dX3_make_58 (by decide) ?_
      refine v_step C 4 dX3_make_59 rfl (by omega) ?_
      refine v_icmp_ge C 80 dX3_make_60 (by decide) (fun z => absurd z (nI_ge (b := 2401) (by omega) (by omega))) (fun _ => ?_)
      refine v_aload_n C dX3_make_63 rfl ?_
      refine v_callV C dX3_make_64 lk_X3_70 (c_savesARoll (d := 1) hW hW2 hre.1 hpa.1.1 hl.2.2 (by decide)) (by omega) rfl rfl rfl rfl rfl (Nat.le_of_ble_eq_true rfl) ?_
      rintro r h' ⟨hr, rfl⟩
      have hsub : (∀ k, k < 4 → pa k ≤ re k) → cdN re 4 - cdN pa 4 = cdN (vsub re pa) 4 := fun hle => cdN_sub (fun k hk => by have := hle k hk; show pa k + (re k - pa k) = re k; omega)
      have hwt : wt w pa ≤ W := by rw [← ps_n hn hpa.1.2]; exact hpa.2
      rcases hr with ⟨rfl, h1, h2⟩ | ⟨rfl, h1⟩
      · refine v_if_ne C 80 dX3_make_67 (by decide) (fun _ => ?_) (fun z => absurd z (by decide))
        rw [hsub h1] at h2
        have hG : Gd W n w re pa := (gd_iff ok hre).mpr ⟨h1, hwt, h2⟩
        exact v_keep [0, 1, 2] (kk pa hpa ⟨hG, hall⟩)
      · refine v_if_ne C 80 dX3_make_67 (by decide) (fun z => absurd rfl z) (fun _ => ?_)
        have hnG : ¬ Gd W n w re pa := fun z => by
          have := (gd_iff ok hre).mp z
          exact h1 ⟨this.1, by rw [hsub this.1]; exact this.2.2⟩
        obtain ⟨g, hg⟩ := gd_ex ok hre hpos
        have hpz : ¬ ∀ k, k < 4 → pa k = 0 := fun z => by
          rcases hall g hg with h | h
          · obtain ⟨j, a, b, c⟩ := ltx_ex 4 h
            have := z j a
            omega
          · exact not_zero ok hre hg (fun k hk => (h k hk).trans (z k hk))
        obtain ⟨s1, s2, s3⟩ := step_next (re := re) hn hw1 hre.1 hpa hpz
        have hbl := ltx_bc s1.1.1 s2
        refine v_aload_n C dX3_make_70 rfl ?_
        refine v_callV C dX3_make_71 lk_X3_74 (c_stepOn (d := 2) hn hW2 hw6 hre.1 hpa.1.1 (fun fi hf hp k hk hkn => ?_) (by decide)) (by omega) rfl rfl rfl rfl rfl (Nat.le_of_ble_eq_true rfl) ?_
        · obtain ⟨-, e2⟩ := dec_pat hn hpa fi
          have e3 := e2 k hkn
          rw [ffI_pre W w re (fi + 1) _ k (by omega)]
          have e4 : ps w (va_up pa fi (pa fi - 1)) (k + 1) = ps w (va_up pa fi (pa fi - 1)) k + va_up pa fi (pa fi - 1) k * w k := rfl
          omega
        rintro r h' ⟨rfl, rfl⟩
        refine v_iinc C dX3_make_74 rfl (nI_1 t) (by decide) ?_
        refine v_goto C 54 dX3_make_77 (by decide) ?_
        refine ih (t + 1) i cu re (soK W n w re pa 4) (by omega) (by omega) hre s1 (fun g hg => ?_) hpos kk
        rcases hall g hg with h | h
        · exact s3 g (gd_pat hn hre hg) hg.1 h
        · exact absurd (gd_congr (fun _ _ => rfl) h hg) hnG
  -- one roll after the other
  have outer : ∀ (m i : Nat) (cu re pa : Nat → Nat), i + m = fr W l q → fr W l re = m → Cnt n re → Pat W n w pa → (∀ g, Gd W n w re g → LtX g pa 4 ∨ eq4 g pa) →
      (∃ vs : Nat → Nat → Nat, eq4 (vs 0) q ∧ eq4 (vs i) re ∧ ∀ j, j < i → Best W n w (vs j) (fun k => cu (4 * j + k)) ∧ eq4 (vs (j + 1)) (vsub (vs j) (fun k => cu (4 * j + k)))) →
      V 4 X (hC (jJ W n w q) (iN l) (pP sd cu re pa) N F tl) 47 [(0, .ref 6), (1, .int (nI (fr W l q))), (2, .int (nI i))] [] := by
    intro m
    induction m with
    | zero =>
      intro i cu re pa hi hfr hre hpa hall hvs
      obtain ⟨vs, v1, v2, v3⟩ := hvs
      refine v_iload_n C dX3_make_47 rfl ?_
      refine v_iload_n C dX3_make_48 rfl ?_
      refine v_icmp_ge C 91 dX3_make_49 (by decide) (fun _ => ?_) (fun q => absurd (nI_le (by omega) (by omega)) q)
      refine v_aload_n C dX3_make_91 rfl ?_
      refine v_iconst C (1) dX3_make_92 (by decide) ?_
      refine v_put C dX3_make_93 fp_X3_21 rfl (fun _ => rfl) (fun _ => rfl) (Nat.le_of_ble_eq_true rfl) ?_
      exact v_vret C E dX3_make_96 ⟨rfl, cu, re, pa, ⟨vs, v1, fun j hj => v3 j (by omega)⟩, rfl⟩
    | succ m ih =>
      intro i cu re pa hi hfr hre hpa hall hvs
      obtain ⟨vs, v1, v2, v3⟩ := hvs
      have hb : bcN pa ≤ 2400 := by
        have a0 := hpa.1.1 0 (by omega)
        have a1 := hpa.1.1 1 (by omega)
        have a2 := hpa.1.1 2 (by omega)
        have a3 := hpa.1.1 3 (by omega)
        unfold bcN
        omega
      refine v_iload_n C dX3_make_47 rfl ?_
      refine v_iload_n C dX3_make_48 rfl ?_
      refine v_icmp_ge C 91 dX3_make_49 (by decide) (fun q => absurd q (nI_ge (by omega) (by omega))) (fun _ => ?_)
      refine v_iconst C (0) dX3_make_52 (by decide) ?_
      refine v_istore_n C dX3_make_53 (by decide) ?_
      refine inner (bcN pa) 0 i cu re pa (Nat.le_refl _) (by omega) hre hpa hall (by omega) (fun pa' hpa' hB => ?_)
      refine v_aload_n C dX3_make_80 rfl ?_
      refine v_iload_n C dX3_make_81 rfl ?_
      refine v_callV C dX3_make_82 lk_X3_77 (c_take (d := 0) i (by omega) hB.1.1) (by omega) rfl rfl rfl rfl rfl (Nat.le_of_ble_eq_true rfl) ?_
      rintro r h' ⟨rfl, cu', re', t1, t2, rfl⟩
      refine v_iinc C dX3_make_85 rfl (nI_1 i) (by decide) ?_
      refine v_goto C 47 dX3_make_88 (by decide) ?_
      have er : eq4 (vsub re pa') re' := fun k hk => (t1 k hk).2.symm
      have ec : ∀ j, j < i → eq4 (fun k => cu (4 * j + k)) (fun k => cu' (4 * j + k)) := fun j hj k hk => (t2 (4 * j + k) (by omega)).symm
      have ep : eq4 pa' (fun k => cu' (4 * i + k)) := fun k hk => (t1 k hk).1.symm
      have hre' : Cnt n re' := by
        have := cnt_sub (p := pa') hre
        exact ⟨fun k hk => by rw [← er k hk]; exact this.1 k hk, fun k a b => by rw [← er k b]; exact this.2 k a b⟩
      have hone := gd_one ok hre hB.1
      refine ih (i + 1) cu' re' pa' (by omega) ?_ hre' hpa' (fun g hg => ?_) ?_
      · rw [← fr_congr er]; omega
      · have hg2 : Gd W n w (vsub re pa') g := gd_congr (fun k hk => (er k hk).symm) (fun _ _ => rfl) hg
        exact hB.2 g (gd_back hB.1 hg2 (fun m h => ⟨pa', hB.1.1, hB.1.2.1, h⟩))
      · refine ⟨fun j => if j ≤ i then vs j else re', ?_, ?_, fun j hj => ?_⟩
        · show eq4 (if 0 ≤ i then vs 0 else re') q
          rw [if_pos (Nat.zero_le i)]; exact v1
        · show eq4 (if i + 1 ≤ i then vs (i + 1) else re') re'
          rw [if_neg (by omega)]; exact fun _ _ => rfl
        · show Best W n w (if j ≤ i then vs j else re') _ ∧ eq4 (if j + 1 ≤ i then vs (j + 1) else re') (vsub (if j ≤ i then vs j else re') _)
          rw [if_pos (by omega)]
          by_cases e : j = i
          · subst e
            rw [if_neg (by omega)]
            refine ⟨⟨gd_congr (fun k hk => (v2 k hk).symm) ep hB.1, fun g hg => ?_⟩, fun k hk => ?_⟩
            · rcases hB.2 g (gd_congr v2 (fun _ _ => rfl) hg) with h | h
              · exact Or.inl (ltx_congr (fun _ _ => rfl) ep h)
              · exact Or.inr (fun k hk => (h k hk).trans (ep k hk))
            · show re' k = vs j k - cu' (4 * j + k)
              rw [v2 k hk, (t1 k hk).1, (t1 k hk).2]
          · rw [if_pos (by omega)]
            obtain ⟨b1, b2⟩ := v3 j (by omega)
            refine ⟨⟨gd_congr (fun _ _ => rfl) (ec j (by omega)) b1.1, fun g hg => ?_⟩, fun k hk => ?_⟩
            · rcases b1.2 g hg with h | h
              · exact Or.inl (ltx_congr (fun _ _ => rfl) (ec j (by omega)) h)
              · exact Or.inr (fun k hk => (h k hk).trans (ec j (by omega) k hk))
            · rw [b2 k hk]
              show vs j k - cu (4 * j + k) = vs j k - cu' (4 * j + k)
              rw [t2 (4 * j + k) (by omega)]
  refine v_aload_n C dX3_make_0 rfl ?_
  refine v_get C dX3_make_1 fl_X3_25 rfl rfl ?_
  refine v_get C dX3_make_4 fl_X3_36 rfl rfl ?_
  refine v_iconst C (0) dX3_make_7 (by decide) ?_
  refine v_aload_n C dX3_make_8 rfl ?_
  refine v_get C dX3_make_9 fl_X3_15 rfl rfl ?_
  refine v_iconst C (0) dX3_make_12 (by decide) ?_
  refine v_iconst C (4) dX3_make_13 (by decide) ?_
  refine v_copy C (n := 4) dX3_make_14 (by omega) (by decide +kernel) rfl rfl rfl (by decide) (by decide) (by decide) (Nat.le_of_ble_eq_true rfl) ?_
  obtain ⟨re1, e1, hre1⟩ := iN_of (va_cpy (iN q) (iN re) 0 0 4) 4 q (fun i hi => by
    unfold va_cpy
    rw [if_pos ⟨Nat.zero_le i, by omega⟩, Nat.sub_zero, Nat.zero_add]
    rfl)
  refine v_eq (h' := hC (jJ W n w q) (iN l) (pP sd cu re1 pa) N F tl) ?_ (congrArg (fun z => hC (jJ W n w q) (iN l) (sd, iN cu, z, iN pa) N F tl) e1)
  refine v_aload_n C dX3_make_17 rfl ?_
  refine v_get C dX3_make_18 fl_X3_18 rfl rfl ?_
  refine v_iconst C (0) dX3_make_21 (by decide) ?_
  refine v_callS C dX3_make_22 lk_X3_47 (c_fillI 0 9 4 (iN pa) 0 _ rfl (by decide)) (by omega) rfl rfl (Nat.le_of_ble_eq_true rfl) ?_
  rintro r h' ⟨rfl, f, hf, rfl⟩
  obtain ⟨pa1, rfl, hpa1⟩ := iN_of f 4 (fun _ => 0) (fun i hi => hf i hi)
  have hre1c : Cnt n re1 := ⟨fun k hk => by rw [hre1 k hk]; exact hq.1 k hk, fun k a b => by rw [hre1 k b]; exact hq.2 k a b⟩
  have hpa1c : Cnt n pa1 := ⟨fun k hk => by rw [hpa1 k hk]; exact Nat.zero_le _, fun k a b => hpa1 k b⟩
  refine v_eq (h' := hC (jJ W n w q) (iN l) (pP sd cu re1 pa1) N F tl) ?_
  refine v_aload_n C dX3_make_25 rfl ?_
  refine v_iconst C (0) dX3_make_26 (by decide) ?_
  refine v_callV C dX3_make_27 lk_X3_53 (c_fillFrom (d := 1) 0 hn (by decide) hW2 hw6 hre1c.1 (fun k hk _ => absurd hk (Nat.not_lt_zero k)) (by decide)) (by omega) rfl rfl rfl rfl rfl (Nat.le_of_ble_eq_true rfl) ?_
  rintro r h' ⟨rfl, rfl⟩
  have hp0 : ∀ k, k < 0 → k < n → ps w pa1 (k + 1) ≤ W := fun k hk _ => absurd hk (Nat.not_lt_zero k)
  have hpat := ffI_pat (fi := 0) hn hre1c.1 hpa1c hp0
  refine v_aload_n C dX3_make_30 rfl ?_
  refine v_get C dX3_make_31 fl_X3_29 rfl rfl ?_
  refine v_aload_n C dX3_make_34 rfl ?_
  refine v_get C dX3_make_35 fl_X3_15 rfl rfl ?_
  refine v_callN C dX3_make_38 lk_X3_57 (c_codeOf 0 8 re1 _ rfl) (by omega) rfl rfl (Nat.le_of_ble_eq_true rfl) ?_
  rintro r h' ⟨rfl, rfl⟩
  refine v_callV C dX3_make_41 lk_X3_61 (c_fewest (d := 0) (cdN re1 4) (cdN_le hre1c.1 4 (Nat.le_refl 4)) hW hW2 (hl.2.2 _ (cdN_le hre1c.1 4 (Nat.le_refl 4)))) (by omega) rfl rfl rfl rfl rfl (Nat.le_of_ble_eq_true rfl) ?_
  rintro r h' ⟨rfl, rfl⟩
  have ef : cl W (l (cdN re1 4)) = fr W l q := fr_congr (W := W) (l := l) hre1
  refine v_eq (st' := [.int (nI (fr W l q))]) ?_ rfl rfl rfl (congrArg (fun z => [Value.int (nI z)]) ef)
  refine v_istore_n C dX3_make_44 (by decide) ?_
  refine v_iconst C (0) dX3_make_45 (by decide) ?_
  refine v_istore_n C dX3_make_46 (by decide) ?_
  refine outer (fr W l q) 0 cu re1 _ (Nat.zero_add _) (fr_congr hre1) hre1c hpat (fun g hg => ?_) ⟨fun _ => re1, hre1, fun _ _ => rfl, fun j hj => absurd hj (Nat.not_lt_zero j)⟩
  have hgp := gd_pat hn hre1c hg
  exact ltx_up hn hgp.1.2 hpat.1.2 (ffI_first hw1 hp0 (fun k hk => hg.1 k (by omega)) hgp.2 (fun k hk _ => absurd hk (Nat.not_lt_zero k)) n (Nat.le_refl n))
end MAKE
