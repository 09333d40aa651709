/-! the reference's learnFloor, floorTop, floorBottom -/
def m5 (a b c e f : Int32) : Nat → Int32 := fun j => if j = 0 then a else if j = 1 then b else if j = 2 then c else if j = 3 then e else f
def A0 (W n : Nat) (w : Nat → Nat) (r j : Nat) : Int := if r < 4 then (if j = r then -1 else 0) else if j = r - 4 then ((dg W n w (r - 4) : Nat) : Int) else if j = 4 then 1 else 0
theorem all5 {P : Nat → Prop} (h0 : P 0) (h1 : P 1) (h2 : P 2) (h3 : P 3) (h4 : P 4) : ∀ k, k < 5 → P k
  | 0, _ => h0
  | 1, _ => h1
  | 2, _ => h2
  | 3, _ => h3
  | 4, _ => h4
theorem rw_ext {rw rw' : Nat → Int32} {rc : Nat} {A : Nat → Nat → Int} {v : Nat → Int32} (h : RW rw rc A) (h1 : ∀ j, j < 5 → rw' (5 * rc + j) = v j) (h2 : ∀ i, i < 5 * rc → rw' i = rw i) (h3 : ∀ j, j < 5 → v j = sI (A rc j) ∧ -1 ≤ A rc j ∧ A rc j ≤ 60) : RW rw' (rc + 1) A := by
  intro r hr j hj
  by_cases e : r = rc
  · subst e
    obtain ⟨a, b, c⟩ := h3 j hj
    exact ⟨by rw [h1 j hj, a], b, c⟩
  · obtain ⟨a, b, c⟩ := h r (by omega) j hj
    exact ⟨by rw [h2 _ (by omega), a], b, c⟩
theorem dg_60 {W n : Nat} {w : Nat → Nat} (hW2 : W ≤ 60) (k : Nat) : dg W n w k ≤ 60 := by
  unfold dg
  split
  · exact Nat.le_trans (Nat.div_le_self _ _) hW2
  · decide
theorem ps_60 {w p : Nat → Nat} : ∀ (n W : Nat), (∀ k, k < n → 1 ≤ w k) → ps w p n ≤ W → ∀ k, k < n → p k ≤ W
  | 0, _, _, _, k, hk => absurd hk (Nat.not_lt_zero k)
  | n + 1, W, hw, h, k, hk => by
    have h : ps w p n + p n * w n ≤ W := h
    by_cases e : k = n
    · subst e
      have := Nat.le_mul_of_pos_right (p k) (hw k (by omega))
      omega
    · exact ps_60 n W (fun j hj => hw j (by omega)) (by omega) k (by omega)
section LEARNF
variable {c : Nat → PC} {W n : Nat} {w q : Nat → Nat} {Q : SQ} {D : Nat → Int32} {d : Nat} {G : SG}
/-- a row more: the dearest pattern -/
theorem ri_ext {rc : Nat} {A A1 : Nat → Nat → Int} {pt pt1 : Nat → Nat → Nat} {p : Nat → Nat} {y : Nat → Int} {Y : Int} (hn : n ≤ 4) (h : RI W n w rc A pt) (hF : Fe rc A y Y) (hp : EXp W n w p) (hv : Y < vl y p n) (e1 : ∀ r, r ≠ rc → A1 r = A r) (e2 : ∀ j, j < 4 → A1 rc j = ((p j : Nat) : Int)) (e3 : A1 rc 4 = 1) (e4 : ∀ r, r ≠ rc → pt1 r = pt r) (e5 : pt1 rc = p) : RI W n w (rc + 1) A1 pt1 := by
  obtain ⟨h8, ha, hb, hc, hd⟩ := h
  refine ⟨by omega, fun k hk j hj => ?_, fun k hk j hj => ?_, fun r h1 h2 => ?_, fun r s h1 h2 h3 => ?_⟩
  · rw [e1 k (by omega)]; exact ha k hk j hj
  · rw [e1 (4 + k) (by omega)]; exact hb k hk j hj
  · by_cases e : r = rc
    · subst e
      rw [e5]
      exact ⟨hp, e2, e3⟩
    · rw [e1 r e, e4 r e]
      exact hc r h1 (by omega)
  · rw [e4 r (by omega)]
    by_cases e : s = rc
    · subst e
      rw [e5]
      obtain ⟨a, b, c⟩ := hc r h1 h2
      by_cases ne : ∃ k, k < n ∧ pt r k ≠ p k
      · exact ne
      · exfalso
        have eq : ∀ k, k < n → pt r k = p k := fun k hk => Classical.byContradiction (fun z => ne ⟨k, hk, z⟩)
        have e1 : vl y (pt r) n = vl y p n := vl_congr n (fun k hk => ⟨rfl, eq k hk⟩)
        have e2 : dot4 (A r) y = vl y (pt r) n := by
          rw [← vl_4 hn a.2.1.2.1, vl_dot]
          simp only [dot4]
          rw [b 0 (by decide), b 1 (by decide), b 2 (by decide), b 3 (by decide)]
        have := hF r h2
        rw [e2, e1, c, Int.one_mul] at this
        omega
    · rw [e4 s e]
      exact hd r s h1 h2 (by omega)
theorem ri_0 : RI W n w 8 (A0 W n w) (fun _ _ => 0) := by
  refine ⟨by decide, fun k hk j hj => ?_, fun k hk j hj => ?_, fun r h1 h2 => by omega, fun r s h1 h2 h3 => by omega⟩
  · unfold A0
    rw [if_pos hk]
  · unfold A0
    rw [if_neg (by omega), show 4 + k - 4 = k by omega]
set_option maxHeartbeats 16000000 in
set_option maxRecDepth 100000 in
theorem m_learnFloor (hM0 : MOk W n w q) (hF : FK W n w q G) (hd : 3 ≤ d) : Con yX6_learnFloor cX6_learnFloor 7 none d [.ref 22] (hM c (jJ W n w q) Q D G) (fun r h' => r = none ∧ ∃ D' G' T B, h' = hM c (jJ W n w q) Q D' G' ∧ G'.1 = 1 ∧ IsFl W n w (qn n q) T B ∧ G'.2.1 = lI T ∧ G'.2.2.1 = lI B) := by
  refine con_of [(0, .ref 22)] (by decide) (fun _ => Nat.le_of_ble_eq_true rfl) (fun _ => rfl) (fun X C E => ?_)
  obtain ⟨hn, hW1, hW2, hw, hq6⟩ := hM0
  have hq : ∀ k, k < 4 → qn n q k ≤ 6 := fun k _ => by
    unfold qn
    split
    · rename_i e; exact hq6 k e
    · omega
  have hw1 : ∀ k, k < n → 1 ≤ w k := fun k hk => (hw k hk).1
  have hw60 : ∀ k, k < n → 1 ≤ w k ∧ w k ≤ 60 := fun k hk => ⟨(hw k hk).1, Nat.le_trans (hw k hk).2 hW2⟩
  have L0 : Sm L62 0 := by unfold Sm L62; omega
  obtain ⟨ik, tp, bt, rw0, rcI, ch, co, un, bc, bu, bm, wk⟩ := G
  rcases hF with hik | ⟨hik, T, B, f1, f2, f3⟩
  case inr =>
    have hik : ik = 1 := hik
    subst hik
    refine v_aload_n C dX6_learnFloor_0 rfl ?_
    refine v_get C dX6_learnFloor_1 fl_X6_49 rfl rfl ?_
    refine v_if_eq C 8 dX6_learnFloor_4 (by decide) (fun q => absurd q ((show ¬ (1 : Int32) = 0 by decide))) (fun _ => ?_)
    exact v_vret C E dX6_learnFloor_7 ⟨rfl, D, _, T, B, rfl, rfl, f1, f2, f3⟩
  have hik : ik = 0 := hik
  subst hik
  -- the end
  have fin : ∀ (rc : Nat) (A : Nat → Nat → Int) (pt : Nat → Nat → Nat) (rw : Nat → Int32) (ch : Nat → Int32) (co : Nat → Int64) (un : Int64) (bc : Nat → Int64) (bcz : Nat → Int) (buz bmz : Int) (wk : Nat → Int64) (D : Nat → Int32), RI W n w rc A pt → Bst rc A (fun k => (qn n q k : Int)) (fun _ _ _ _ => True) bcz buz bmz → (∀ p : Nat → Nat, ps w p n ≤ W → vl bcz p n ≤ buz) → V 7 X (hM c (jJ W n w q) Q D (gG 1 tp bt rw rc ch co un bc (lI buz) (lI bmz) wk)) 242 [(0, .ref 22)] [] := by
    intro rc A pt rw ch co un bc bcz buz bmz wk D hRI hS hfe
    have h0 := (top_bound (ri_bd hw hRI) hS (by decide) (ri_zero hRI)).1
    obtain ⟨s1, s2, s3⟩ := hS.2.2.1 h0
    have hnn := ri_nonneg hRI s3
    have hb0 : 0 ≤ bmz := by
      rw [s2]
      show 0 ≤ (qn n q 0 : Int) * bcz 0 + (qn n q 1 : Int) * bcz 1 + (qn n q 2 : Int) * bcz 2 + (qn n q 3 : Int) * bcz 3
      have a0 := Int.mul_nonneg (Int.natCast_nonneg (qn n q 0)) (hnn 0 (by decide))
      have a1 := Int.mul_nonneg (Int.natCast_nonneg (qn n q 1)) (hnn 1 (by decide))
      have a2 := Int.mul_nonneg (Int.natCast_nonneg (qn n q 2)) (hnn 2 (by decide))
      have a3 := Int.mul_nonneg (Int.natCast_nonneg (qn n q 3)) (hnn 3 (by decide))
      omega
    have hmd : Sm 7464960000 bmz := by
      rw [s2]
      have h := sm_dot (A := 6) (B := 311040000) (by decide) (by decide) (u := fun k => (qn n q k : Int)) (v := bcz) (fun k hk => by have := hq k hk; unfold Sm; omega) s1
      exact sm_le (by decide) h
    have hu1 := hS.1
    have hu2 := hS.2.1
    obtain ⟨T, hT⟩ : ∃ T : Nat, bmz = (T : Int) := ⟨bmz.toNat, by omega⟩
    obtain ⟨B, hB⟩ : ∃ B : Nat, buz = (B : Int) := ⟨buz.toNat, by omega⟩
    have hfl := ri_fl (q := q) hn hw hRI hS hfe hT hB
    have hB0 : 0 < B := by omega
    have hTl : T < 2 ^ 40 := by unfold Sm at hmd; omega
    have hBl : B < 2 ^ 40 := by omega
    subst hT hB
    have hg0 : 0 < Nat.gcd T B := Nat.gcd_pos_of_pos_right _ hB0
    have hgl : Nat.gcd T B ≤ B := Nat.gcd_le_right _ hB0
    have sg : Sm L62 ((Nat.gcd T B : Nat) : Int) := smN (b := 1099511627776) (by omega) (by decide)
    have sT : Sm L62 ((T : Nat) : Int) := smN (b := 1099511627776) (by omega) (by decide)
    have sB : Sm L62 ((B : Nat) : Int) := smN (b := 1099511627776) (by omega) (by decide)
    have hne : ¬ lI ((Nat.gcd T B : Nat) : Int) = 0 := by
      rw [show (0 : Int64) = lI 0 from rfl, lI_eq sg L0]
      have := posN hg0
      exact fun z => by rw [z] at this; exact absurd this (by decide)
    have key : ∀ (m x y : Nat), x ≤ m → x < 2 ^ 40 → y < 2 ^ 40 → Nat.gcd x y = Nat.gcd T B → V 7 X (hM c (jJ W n w q) Q D (gG 1 tp bt rw rc ch co un bc (lI (B : Int)) (lI (T : Int)) wk)) 252 [(0, .ref 22), (1, .long (lI (x : Int))), (3, .long (lI (y : Int)))] [] := by
      intro m
      induction m with
      | zero =>
        intro x y hx hx2 hy hg
        obtain rfl : x = 0 := by omega
        rw [Nat.gcd_zero_left] at hg
        subst hg
        refine v_lload_n C dX6_learnFloor_252 rfl ?_
        refine v_lconst C (0) dX6_learnFloor_253 (by decide) ?_
        refine v_lcmp C dX6_learnFloor_254 ?_
        refine v_if_le C 271 dX6_learnFloor_255 (by decide) (fun _ => ?_) (fun q => absurd (((lg_cmp_le _ _).mpr (by decide))) q)
        refine v_aload_n C dX6_learnFloor_271 rfl ?_
        refine v_aload_n C dX6_learnFloor_272 rfl ?_
        refine v_get C dX6_learnFloor_273 fl_X6_121 rfl rfl ?_
        refine v_lload_n C dX6_learnFloor_276 rfl ?_
        refine v_ldiv C dX6_learnFloor_277 hne ?_
        refine v_put C dX6_learnFloor_278 fp_X6_131 rfl (fun _ => rfl) (fun _ => rfl) (Nat.le_of_ble_eq_true rfl) ?_
        refine v_aload_n C dX6_learnFloor_281 rfl ?_
        refine v_aload_n C dX6_learnFloor_282 rfl ?_
        refine v_get C dX6_learnFloor_283 fl_X6_111 rfl rfl ?_
        refine v_lload_n C dX6_learnFloor_286 rfl ?_
        refine v_ldiv C dX6_learnFloor_287 hne ?_
        refine v_put C dX6_learnFloor_288 fp_X6_134 rfl (fun _ => rfl) (fun _ => rfl) (Nat.le_of_ble_eq_true rfl) ?_
        refine v_vret C E dX6_learnFloor_291 ⟨rfl, D, gG 1 (lI (T : Int) / lI ((Nat.gcd T B : Nat) : Int)) (lI (B : Int) / lI ((Nat.gcd T B : Nat) : Int)) rw rc ch co un bc (lI (B : Int)) (lI (T : Int)) wk, _, _, rfl, rfl, hfl, ?_, ?_⟩
        · show lI (T : Int) / lI ((Nat.gcd T B : Nat) : Int) = _
          rw [lI_div sT sg (posN hg0), Int.tdiv_eq_ediv_of_nonneg (by omega)]
          rfl
        · show lI (B : Int) / lI ((Nat.gcd T B : Nat) : Int) = _
          rw [lI_div sB sg (posN hg0), Int.tdiv_eq_ediv_of_nonneg (by omega)]
          rfl
      | succ m ih =>
        intro x y hx hx2 hy hg
        by_cases e : x = 0
        · exact ih x y (by omega) hx2 hy hg
        · have sx : Sm L62 (x : Int) := smN (b := 1099511627776) (by omega) (by decide)
          have sy : Sm L62 (y : Int) := smN (b := 1099511627776) (by omega) (by decide)
          have hne : ¬ lI (x : Int) = 0 := by
            rw [show (0 : Int64) = lI 0 from rfl, lI_eq sx L0]
            omega
          refine v_lload_n C dX6_learnFloor_252 rfl ?_
          refine v_lconst C (0) dX6_learnFloor_253 (by decide) ?_
          refine v_lcmp C dX6_learnFloor_254 ?_
          refine v_if_le C 271 dX6_learnFloor_255 (by decide) (fun q => absurd q ((fun z => by have := (lI_le sx L0).mp ((lg_cmp_le _ _).mp z); omega))) (fun _ => ?_)
          refine v_lload_n C dX6_learnFloor_258 rfl ?_
          refine v_lload_n C dX6_learnFloor_259 rfl ?_
          refine v_lrem C dX6_learnFloor_260 hne ?_
          have er : lI (y : Int) - lI (y : Int) / lI (x : Int) * lI (x : Int) = lI ((y % x : Nat) : Int) := by
            rw [lI_div sy sx (posN (by omega)), lI_mul, lI_sub, Int.tdiv_eq_ediv_of_nonneg (by omega)]
            congr 1
            have h1 : ((y % x : Nat) : Int) = (y : Int) % (x : Int) := rfl
            rw [h1, Int.emod_def, Int.mul_comm]
          refine v_eq (st' := [.long (lI ((y % x : Nat) : Int))]) ?_ rfl rfl rfl (congrArg (fun z => [Value.long z]) er)
          refine v_lstore C dX6_learnFloor_261 (by decide) ?_
          refine v_lload_n C dX6_learnFloor_263 rfl ?_
          refine v_lstore_n C dX6_learnFloor_264 (by decide) ?_
          refine v_lload C dX6_learnFloor_265 rfl ?_
          refine v_lstore_n C dX6_learnFloor_267 (by decide) ?_
          refine v_goto C 252 dX6_learnFloor_268 (by decide) ?_
          have hm : y % x < x := Nat.mod_lt _ (by omega)
          refine v_keep [0, 1, 3] (ih (y % x) x (by omega) (by omega) hx2 ?_)
          rw [← hg, Nat.gcd_rec x y]
    refine v_aload_n C dX6_learnFloor_242 rfl ?_
    refine v_get C dX6_learnFloor_243 fl_X6_121 rfl rfl ?_
    refine v_lstore_n C dX6_learnFloor_246 (by decide) ?_
    refine v_aload_n C dX6_learnFloor_247 rfl ?_
    refine v_get C dX6_learnFloor_248 fl_X6_111 rfl rfl ?_
    refine v_lstore_n C dX6_learnFloor_251 (by decide) ?_
    exact key T T B (Nat.le_refl T) hTl hBl rfl
  -- the loop
  have main : ∀ (m rc : Nat) (A : Nat → Nat → Int) (pt : Nat → Nat → Nat) (rw : Nat → Int32) (ch : Nat → Int32) (co : Nat → Int64) (un : Int64) (bc : Nat → Int64) (bcz : Nat → Int) (buz bmz : Int) (wk : Nat → Int64) (D : Nat → Int32), rc + m = 80 → RI W n w rc A pt → RW rw rc A → Bst rc A (fun k => (qn n q k : Int)) (fun _ _ _ _ => True) bcz buz bmz → (∀ j, j < 4 → bc j = lI (bcz j)) → V 7 X (hM c (jJ W n w q) Q D (gG 1 tp bt rw rc ch co un bc (lI buz) (lI bmz) wk)) 160 [(0, .ref 22)] [] := by
    intro m
    induction m with
    | zero =>
      intro rc A pt rw ch co un bc bcz buz bmz wk D hm hRI
      have := ri_rc hn hW2 hw hRI
      omega
    | succ m ih =>
      intro rc A pt rw ch co un bc bcz buz bmz wk D hm hRI hR hS hbc
      have h0 := (top_bound (ri_bd hw hRI) hS (by decide) (ri_zero hRI)).1
      obtain ⟨s1, s2, s3⟩ := hS.2.2.1 h0
      have hnn := ri_nonneg hRI s3
      have hu1 := hS.1
      have hu2 := hS.2.1
      refine v_aload_n C dX6_learnFloor_160 rfl ?_
      refine v_get C dX6_learnFloor_161 fl_X6_100 rfl rfl ?_
      refine v_sipush C (200) dX6_learnFloor_164 (by decide) ?_
      refine v_icmp_ge C 242 dX6_learnFloor_167 (by decide) (fun q => absurd q (nI_ge (b := 200) (by omega) (by omega))) (fun _ => ?_)
      refine v_aload_n C dX6_learnFloor_170 rfl ?_
      refine v_aload_n C dX6_learnFloor_171 rfl ?_
      refine v_get C dX6_learnFloor_172 fl_X6_39 rfl rfl ?_
      refine v_iconst C (0) dX6_learnFloor_175 (by decide) ?_
      refine v_lald C 0 dX6_learnFloor_176 rfl rfl (by decide) (by decide) ?_
      refine v_aload_n C dX6_learnFloor_177 rfl ?_
      refine v_get C dX6_learnFloor_178 fl_X6_39 rfl rfl ?_
      refine v_iconst C (1) dX6_learnFloor_181 (by decide) ?_
      refine v_lald C 1 dX6_learnFloor_182 rfl rfl (by decide) (by decide) ?_
      refine v_aload_n C dX6_learnFloor_183 rfl ?_
      refine v_get C dX6_learnFloor_184 fl_X6_39 rfl rfl ?_
      refine v_iconst C (2) dX6_learnFloor_187 (by decide) ?_
      refine v_lald C 2 dX6_learnFloor_188 rfl rfl (by decide) (by decide) ?_
      refine v_aload_n C dX6_learnFloor_189 rfl ?_
      refine v_get C dX6_learnFloor_190 fl_X6_39 rfl rfl ?_
      refine v_iconst C (3) dX6_learnFloor_193 (by decide) ?_
      refine v_lald C 3 dX6_learnFloor_194 rfl rfl (by decide) (by decide) ?_
      refine v_eq (st' := [.long (lI (bcz 3)), .long (lI (bcz 2)), .long (lI (bcz 1)), .long (lI (bcz 0)), .ref 22]) ?_ rfl rfl rfl (by rw [← hbc 0 (by decide), ← hbc 1 (by decide), ← hbc 2 (by decide), ← hbc 3 (by decide)]; rfl)
      have hwo : ∀ k, k < 4 → 0 ≤ bcz k ∧ bcz k ≤ 4503599627370496 := fun k hk => ⟨hnn k hk, by have := s1 k hk; unfold Sm at this; omega⟩
      have hDs : ∀ k, ∃ x, D k = nI x := fun k => nI_surj (D k)
      refine v_callV C dX6_learnFloor_195 lk_X6_96 (m_dear (d := 1) bcz (fun k => Classical.choose (hDs k)) hn hW2 hw60 hwo (fun k _ => Classical.choose_spec (hDs k)) (by decide)) (by omega) rfl rfl rfl rfl rfl (Nat.le_of_ble_eq_true rfl) ?_
      rintro o h' ⟨rfl, D', hD', rfl⟩
      obtain ⟨⟨x1, _⟩, x2, x3, x4⟩ := g1_isMx (W := W) (n := n) (w := w) (wo := bcz) hn hw1 hnn (pi := fun k => Classical.choose (hDs k))
      have x5 := g1_ext (W := W) (n := n) (w := w) (wo := bcz) hn hw1 hnn (pi := fun k => Classical.choose (hDs k))
      generalize g1 W n w bcz (-1, fun k => Classical.choose (hDs k)) = R at *
      obtain ⟨mx, p⟩ := R
      have x4 : vl bcz p n = mx := x4
      have x2 : ∀ k, n ≤ k → k < 4 → p k = 0 := x2
      have x3 : ps w p n ≤ W := x3
      have x5 : Extp W n w p := x5
      have x1 : ∀ p : Nat → Nat, ps w p n ≤ W → vl bcz p n ≤ mx := x1
      have hD' : ∀ k, k < 4 → D' k = nI (p k) := hD'
      have hp60 : ∀ k, k < 4 → p k ≤ 60 := fun k hk => by
        by_cases e : k < n
        · exact Nat.le_trans (ps_60 n W hw1 x3 k e) hW2
        · rw [x2 k (by omega) hk]; omega
      have smx : Sm L62 mx := by
        rw [← x4, ← vl_4 hn x2, vl_dot]
        have h := sm_dot (A := 60) (B := 311040000) (by decide) (by decide) (u := fun k => (p k : Int)) (v := bcz) (fun k hk => by have := hp60 k hk; unfold Sm; omega) s1
        exact sm_le (by unfold L62; decide) h
      have sbu : Sm L62 buz := by unfold Sm L62; omega
      refine v_aload_n C dX6_learnFloor_198 rfl ?_
      refine v_get C dX6_learnFloor_199 fl_X6_111 rfl rfl ?_
      refine v_lcmp C dX6_learnFloor_202 ?_
      have hcm : (lg_cmp (lI mx) (lI buz) ≤ 0) ↔ mx ≤ buz := by rw [lg_cmp_le, lI_le smx sbu]
      by_cases cs : mx ≤ buz
      · refine v_if_le C 242 dX6_learnFloor_203 (by decide) (fun _ => ?_) (fun q => absurd ((hcm.mpr cs)) q)
        exact fin rc A pt rw ch co un bc bcz buz bmz wk D' hRI hS (fun p hp => Int.le_trans (x1 p hp) cs)
      · refine v_if_le C 242 dX6_learnFloor_203 (by decide) (fun q => absurd q ((fun z => cs (hcm.mp z)))) (fun _ => ?_)
        refine v_aload_n C dX6_learnFloor_206 rfl ?_
        refine v_aload_n C dX6_learnFloor_207 rfl ?_
        refine v_get C dX6_learnFloor_208 fl_X6_26 rfl rfl ?_
        refine v_iconst C (0) dX6_learnFloor_211 (by decide) ?_
        refine v_iald C 0 dX6_learnFloor_212 rfl rfl (by decide) (by decide) ?_
        refine v_aload_n C dX6_learnFloor_213 rfl ?_
        refine v_get C dX6_learnFloor_214 fl_X6_26 rfl rfl ?_
        refine v_iconst C (1) dX6_learnFloor_217 (by decide) ?_
        refine v_iald C 1 dX6_learnFloor_218 rfl rfl (by decide) (by decide) ?_
        refine v_aload_n C dX6_learnFloor_219 rfl ?_
        refine v_get C dX6_learnFloor_220 fl_X6_26 rfl rfl ?_
        refine v_iconst C (2) dX6_learnFloor_223 (by decide) ?_
        refine v_iald C 2 dX6_learnFloor_224 rfl rfl (by decide) (by decide) ?_
        refine v_aload_n C dX6_learnFloor_225 rfl ?_
        refine v_get C dX6_learnFloor_226 fl_X6_26 rfl rfl ?_
        refine v_iconst C (3) dX6_learnFloor_229 (by decide) ?_
        refine v_iald C 3 dX6_learnFloor_230 rfl rfl (by decide) (by decide) ?_
        refine v_iconst C (1) dX6_learnFloor_231 (by decide) ?_
        refine v_callV C dX6_learnFloor_232 lk_X6_124 (m_row (d := 0) (m5 (D' 0) (D' 1) (D' 2) (D' 3) 1) (by omega)) (by omega) rfl rfl rfl rfl rfl (Nat.le_of_ble_eq_true rfl) ?_
        rintro o h' ⟨rfl, rw', r1, r2, rfl⟩
        have hE : EXp W n w p := by
          refine ⟨x5, ⟨hp60, x2, x3⟩, Classical.byContradiction (fun z => ?_)⟩
          have hz : vl bcz p n = 0 := vl_zero n (fun k hk => Classical.byContradiction (fun y => z ⟨k, hk, y⟩))
          omega
        have hRI' := ri_ext (p := p) (A1 := fun r j => if r = rc then (if j = 4 then 1 else ((p j : Nat) : Int)) else A r j) (pt1 := fun r => if r = rc then p else pt r) hn hRI s3 hE (by omega) (fun r h => funext (fun j => if_neg h)) (fun j hj => (if_pos rfl).trans (if_neg (by omega))) ((if_pos rfl).trans (if_pos rfl)) (fun r h => if_neg h) (if_pos rfl)
        have hR' : RW rw' (rc + 1) (fun r j => if r = rc then (if j = 4 then 1 else ((p j : Nat) : Int)) else A r j) := by
          refine rw_ext (rw := rw) (v := m5 (D' 0) (D' 1) (D' 2) (D' 3) 1) (fun r hr j hj => ?_) r1 r2 (all5 ?_ ?_ ?_ ?_ ?_)
          · rw [if_neg (by omega)]; exact hR r hr j hj
          · have := hp60 0 (by decide)
            rw [if_pos rfl, if_neg (by decide)]
            exact ⟨by rw [sI_n]; exact hD' 0 (by decide), by omega, by omega⟩
          · have := hp60 1 (by decide)
            rw [if_pos rfl, if_neg (by decide)]
            exact ⟨by rw [sI_n]; exact hD' 1 (by decide), by omega, by omega⟩
          · have := hp60 2 (by decide)
            rw [if_pos rfl, if_neg (by decide)]
            exact ⟨by rw [sI_n]; exact hD' 2 (by decide), by omega, by omega⟩
          · have := hp60 3 (by decide)
            rw [if_pos rfl, if_neg (by decide)]
            exact ⟨by rw [sI_n]; exact hD' 3 (by decide), by omega, by omega⟩
          · rw [if_pos rfl, if_pos rfl]
            exact ⟨(by decide : (1 : Int32) = sI 1), by omega, by omega⟩
        refine v_aload_n C dX6_learnFloor_235 rfl ?_
        refine v_callV C dX6_learnFloor_236 lk_X6_128 (m_search (d := 2) _ hn hq (by omega) hR' (by decide)) (by omega) rfl rfl rfl rfl rfl (Nat.le_of_ble_eq_true rfl) ?_
        rintro o h' ⟨rfl, bcz', buz', bmz', ch', co', un', bc', wk', hS', hbc', rfl⟩
        refine v_goto C 160 dX6_learnFloor_239 (by decide) ?_
        exact ih (rc + 1) _ _ rw' ch' co' un' bc' bcz' buz' bmz' wk' D' (by omega) hRI' hR' hS' hbc'
  -- the first rows
  have go : ∀ (rw : Nat → Int32), RW rw 8 (A0 W n w) → V 7 X (hM c (jJ W n w q) Q D (gG 1 tp bt rw 8 ch co un bc bu bm wk)) 156 [(0, .ref 22)] [] := by
    intro rw hR
    refine v_aload_n C dX6_learnFloor_156 rfl ?_
    refine v_callV C dX6_learnFloor_157 lk_X6_128 (m_search (d := 2) _ hn hq (by omega) hR (by decide)) (by omega) rfl rfl rfl rfl rfl (Nat.le_of_ble_eq_true rfl) ?_
    rintro o h' ⟨rfl, bcz', buz', bmz', ch', co', un', bc', wk', hS', hbc', rfl⟩
    exact main 72 8 _ _ rw ch' co' un' bc' bcz' buz' bmz' wk' D rfl ri_0 hR hS' hbc'

  have u4 : ∀ (rw : Nat → Int32), RW rw 8 (A0 W n w) → V 7 X (hM c (jJ W n w q) Q D (gG 1 tp bt rw 8 ch co un bc bu bm wk)) 77 [(0, .ref 22), (1, .int (nI 4))] [] := by
    intro rw hR
    refine v_iload_n C dX6_learnFloor_77 rfl ?_
    refine v_iconst C (4) dX6_learnFloor_78 (by decide) ?_
    refine v_icmp_ge C 156 dX6_learnFloor_79 (by decide) (fun _ => ?_) (fun q => absurd ((by decide)) q)
    exact v_keep [0] (go rw hR)
  have u3 : ∀ (rw : Nat → Int32), RW rw 7 (A0 W n w) → V 7 X (hM c (jJ W n w q) Q D (gG 1 tp bt rw 7 ch co un bc bu bm wk)) 77 [(0, .ref 22), (1, .int (nI 3))] [] := by
    intro rw hR
    have hx := dg_60 (n := n) (w := w) hW2 3
    have rest : V 7 X (hM c (jJ W n w q) Q D (gG 1 tp bt rw 7 ch co un bc bu bm wk)) 105 [(0, .ref 22), (1, .int (nI 3))] [.int (nI (dg W n w 3))] := by
      refine v_istore_n C dX6_learnFloor_105 (by decide) ?_
      refine v_aload_n C dX6_learnFloor_106 rfl ?_
      refine v_iload_n C dX6_learnFloor_107 rfl ?_
      refine v_if_ne C 115 dX6_learnFloor_108 (by decide) (fun _ => ?_) (fun q => absurd q ((by decide)))
      refine v_iconst C (0) dX6_learnFloor_115 (by decide) ?_
      refine v_iload_n C dX6_learnFloor_116 rfl ?_
      refine v_iconst C (1) dX6_learnFloor_117 (by decide) ?_
      refine v_icmp_ne C 125 dX6_learnFloor_118 (by decide) (fun _ => ?_) (fun q => absurd q ((by decide)))
      refine v_iconst C (0) dX6_learnFloor_125 (by decide) ?_
      refine v_iload_n C dX6_learnFloor_126 rfl ?_
      refine v_iconst C (2) dX6_learnFloor_127 (by decide) ?_
      refine v_icmp_ne C 135 dX6_learnFloor_128 (by decide) (fun _ => ?_) (fun q => absurd q ((by decide)))
      refine v_iconst C (0) dX6_learnFloor_135 (by decide) ?_
      refine v_iload_n C dX6_learnFloor_136 rfl ?_
      refine v_iconst C (3) dX6_learnFloor_137 (by decide) ?_
      refine v_icmp_ne C 145 dX6_learnFloor_138 (by decide) (fun q => absurd q ((fun z => z rfl))) (fun _ => ?_)
      refine v_iload_n C dX6_learnFloor_141 rfl ?_
      refine v_goto C 146 dX6_learnFloor_142 (by decide) ?_
      refine v_iconst C (1) dX6_learnFloor_146 (by decide) ?_
      refine v_callV C dX6_learnFloor_147 lk_X6_124 (m_row (d := 0) (m5 0 0 0 (nI (dg W n w 3)) 1) (by decide)) (by omega) rfl rfl rfl rfl rfl (Nat.le_of_ble_eq_true rfl) ?_
      rintro o h' ⟨rfl, rw', r1, r2, rfl⟩
      refine v_iinc C dX6_learnFloor_150 rfl (nI_1 3) (by decide) ?_
      refine v_goto C 77 dX6_learnFloor_153 (by decide) ?_
      refine v_keep [0, 1] (u4 rw' (rw_ext hR r1 r2 (all5 ?_ ?_ ?_ ?_ ?_)))
      · exact ⟨rfl, by show (-1 : Int) ≤ 0; decide, by show (0 : Int) ≤ 60; decide⟩
      · exact ⟨rfl, by show (-1 : Int) ≤ 0; decide, by show (0 : Int) ≤ 60; decide⟩
      · exact ⟨rfl, by show (-1 : Int) ≤ 0; decide, by show (0 : Int) ≤ 60; decide⟩
      · exact ⟨(sI_n (dg W n w 3)).symm, by show (-1 : Int) ≤ ((dg W n w 3 : Nat) : Int); omega, by show ((dg W n w 3 : Nat) : Int) ≤ 60; omega⟩
      · exact ⟨rfl, by show (-1 : Int) ≤ 1; decide, by show (1 : Int) ≤ 60; decide⟩
    refine v_iload_n C dX6_learnFloor_77 rfl ?_
    refine v_iconst C (4) dX6_learnFloor_78 (by decide) ?_
    refine v_icmp_ge C 156 dX6_learnFloor_79 (by decide) (fun q => absurd q ((by decide))) (fun _ => ?_)
    refine v_iload_n C dX6_learnFloor_82 rfl ?_
    refine v_aload_n C dX6_learnFloor_83 rfl ?_
    refine v_get C dX6_learnFloor_84 fl_X6_52 rfl rfl ?_
    by_cases e : 3 < n
    · refine v_icmp_ge C 104 dX6_learnFloor_87 (by decide) (fun q => absurd q (nI_ge (a := 3) e (by omega))) (fun _ => ?_)
      obtain ⟨w1, w2⟩ := hw60 3 e
      refine v_aload_n C dX6_learnFloor_90 rfl ?_
      refine v_get C dX6_learnFloor_91 fl_X6_7 rfl rfl ?_
      refine v_aload_n C dX6_learnFloor_94 rfl ?_
      refine v_get C dX6_learnFloor_95 fl_X6_13 rfl rfl ?_
      refine v_iload_n C dX6_learnFloor_98 rfl ?_
      refine v_iald C 3 dX6_learnFloor_99 rfl rfl (by decide) (by decide) ?_
      refine v_idiv C dX6_learnFloor_100 (nI_ne0 w1 (by omega)) ?_
      refine v_eq (st' := [.int (nI (dg W n w 3))]) ?_ rfl rfl rfl (by show [Value.int (nI W / nI (w 3))] = _; rw [nI_dv (by omega) w1 (by omega)]; unfold dg; rw [if_pos e])
      refine v_goto C 105 dX6_learnFloor_101 (by decide) ?_
      exact rest
    · refine v_icmp_ge C 104 dX6_learnFloor_87 (by decide) (fun _ => ?_) (fun q => absurd (nI_le (b := 3) (Nat.not_lt.mp e) (by decide)) q)
      refine v_iconst C (1) dX6_learnFloor_104 (by decide) ?_
      refine v_eq rest rfl rfl rfl (by unfold dg; rw [if_neg e]; rfl)
  have u2 : ∀ (rw : Nat → Int32), RW rw 6 (A0 W n w) → V 7 X (hM c (jJ W n w q) Q D (gG 1 tp bt rw 6 ch co un bc bu bm wk)) 77 [(0, .ref 22), (1, .int (nI 2))] [] := by
    intro rw hR
    have hx := dg_60 (n := n) (w := w) hW2 2
    have rest : V 7 X (hM c (jJ W n w q) Q D (gG 1 tp bt rw 6 ch co un bc bu bm wk)) 105 [(0, .ref 22), (1, .int (nI 2))] [.int (nI (dg W n w 2))] := by
      refine v_istore_n C dX6_learnFloor_105 (by decide) ?_
      refine v_aload_n C dX6_learnFloor_106 rfl ?_
      refine v_iload_n C dX6_learnFloor_107 rfl ?_
      refine v_if_ne C 115 dX6_learnFloor_108 (by decide) (fun _ => ?_) (fun q => absurd q ((by decide)))
      refine v_iconst C (0) dX6_learnFloor_115 (by decide) ?_
      refine v_iload_n C dX6_learnFloor_116 rfl ?_
      refine v_iconst C (1) dX6_learnFloor_117 (by decide) ?_
      refine v_icmp_ne C 125 dX6_learnFloor_118 (by decide) (fun _ => ?_) (fun q => absurd q ((by decide)))
      refine v_iconst C (0) dX6_learnFloor_125 (by decide) ?_
      refine v_iload_n C dX6_learnFloor_126 rfl ?_
      refine v_iconst C (2) dX6_learnFloor_127 (by decide) ?_
      refine v_icmp_ne C 135 dX6_learnFloor_128 (by decide) (fun q => absurd q ((fun z => z rfl))) (fun _ => ?_)
      refine v_iload_n C dX6_learnFloor_131 rfl ?_
      refine v_goto C 136 dX6_learnFloor_132 (by decide) ?_
      refine v_iload_n C dX6_learnFloor_136 rfl ?_
      refine v_iconst C (3) dX6_learnFloor_137 (by decide) ?_
      refine v_icmp_ne C 145 dX6_learnFloor_138 (by decide) (fun _ => ?_) (fun q => absurd q ((by decide)))
      refine v_iconst C (0) dX6_learnFloor_145 (by decide) ?_
      refine v_iconst C (1) dX6_learnFloor_146 (by decide) ?_
      refine v_callV C dX6_learnFloor_147 lk_X6_124 (m_row (d := 0) (m5 0 0 (nI (dg W n w 2)) 0 1) (by decide)) (by omega) rfl rfl rfl rfl rfl (Nat.le_of_ble_eq_true rfl) ?_
      rintro o h' ⟨rfl, rw', r1, r2, rfl⟩
      refine v_iinc C dX6_learnFloor_150 rfl (nI_1 2) (by decide) ?_
      refine v_goto C 77 dX6_learnFloor_153 (by decide) ?_
      refine v_keep [0, 1] (u3 rw' (rw_ext hR r1 r2 (all5 ?_ ?_ ?_ ?_ ?_)))
      · exact ⟨rfl, by show (-1 : Int) ≤ 0; decide, by show (0 : Int) ≤ 60; decide⟩
      · exact ⟨rfl, by show (-1 : Int) ≤ 0; decide, by show (0 : Int) ≤ 60; decide⟩
      · exact ⟨(sI_n (dg W n w 2)).symm, by show (-1 : Int) ≤ ((dg W n w 2 : Nat) : Int); omega, by show ((dg W n w 2 : Nat) : Int) ≤ 60; omega⟩
      · exact ⟨rfl, by show (-1 : Int) ≤ 0; decide, by show (0 : Int) ≤ 60; decide⟩
      · exact ⟨rfl, by show (-1 : Int) ≤ 1; decide, by show (1 : Int) ≤ 60; decide⟩
    refine v_iload_n C dX6_learnFloor_77 rfl ?_
    refine v_iconst C (4) dX6_learnFloor_78 (by decide) ?_
    refine v_icmp_ge C 156 dX6_learnFloor_79 (by decide) (fun q => absurd q ((by decide))) (fun _ => ?_)
    refine v_iload_n C dX6_learnFloor_82 rfl ?_
    refine v_aload_n C dX6_learnFloor_83 rfl ?_
    refine v_get C dX6_learnFloor_84 fl_X6_52 rfl rfl ?_
    by_cases e : 2 < n
    · refine v_icmp_ge C 104 dX6_learnFloor_87 (by decide) (fun q => absurd q (nI_ge (a := 2) e (by omega))) (fun _ => ?_)
      obtain ⟨w1, w2⟩ := hw60 2 e
      refine v_aload_n C dX6_learnFloor_90 rfl ?_
      refine v_get C dX6_learnFloor_91 fl_X6_7 rfl rfl ?_
      refine v_aload_n C dX6_learnFloor_94 rfl ?_
      refine v_get C dX6_learnFloor_95 fl_X6_13 rfl rfl ?_
      refine v_iload_n C dX6_learnFloor_98 rfl ?_
      refine v_iald C 2 dX6_learnFloor_99 rfl rfl (by decide) (by decide) ?_
      refine v_idiv C dX6_learnFloor_100 (nI_ne0 w1 (by omega)) ?_
      refine v_eq (st' := [.int (nI (dg W n w 2))]) ?_ rfl rfl rfl (by show [Value.int (nI W / nI (w 2))] = _; rw [nI_dv (by omega) w1 (by omega)]; unfold dg; rw [if_pos e])
      refine v_goto C 105 dX6_learnFloor_101 (by decide) ?_
      exact rest
    · refine v_icmp_ge C 104 dX6_learnFloor_87 (by decide) (fun _ => ?_) (fun q => absurd (nI_le (b := 2) (Nat.not_lt.mp e) (by decide)) q)
      refine v_iconst C (1) dX6_learnFloor_104 (by decide) ?_
      refine v_eq rest rfl rfl rfl (by unfold dg; rw [if_neg e]; rfl)
  have u1 : ∀ (rw : Nat → Int32), RW rw 5 (A0 W n w) → V 7 X (hM c (jJ W n w q) Q D (gG 1 tp bt rw 5 ch co un bc bu bm wk)) 77 [(0, .ref 22), (1, .int (nI 1))] [] := by
    intro rw hR
    have hx := dg_60 (n := n) (w := w) hW2 1
    have rest : V 7 X (hM c (jJ W n w q) Q D (gG 1 tp bt rw 5 ch co un bc bu bm wk)) 105 [(0, .ref 22), (1, .int (nI 1))] [.int (nI (dg W n w 1))] := by
      refine v_istore_n C dX6_learnFloor_105 (by decide) ?_
      refine v_aload_n C dX6_learnFloor_106 rfl ?_
      refine v_iload_n C dX6_learnFloor_107 rfl ?_
      refine v_if_ne C 115 dX6_learnFloor_108 (by decide) (fun _ => ?_) (fun q => absurd q ((by decide)))
      refine v_iconst C (0) dX6_learnFloor_115 (by decide) ?_
      refine v_iload_n C dX6_learnFloor_116 rfl ?_
      refine v_iconst C (1) dX6_learnFloor_117 (by decide) ?_
      refine v_icmp_ne C 125 dX6_learnFloor_118 (by decide) (fun q => absurd q ((fun z => z rfl))) (fun _ => ?_)
      refine v_iload_n C dX6_learnFloor_121 rfl ?_
      refine v_goto C 126 dX6_learnFloor_122 (by decide) ?_
      refine v_iload_n C dX6_learnFloor_126 rfl ?_
      refine v_iconst C (2) dX6_learnFloor_127 (by decide) ?_
      refine v_icmp_ne C 135 dX6_learnFloor_128 (by decide) (fun _ => ?_) (fun q => absurd q ((by decide)))
      refine v_iconst C (0) dX6_learnFloor_135 (by decide) ?_
      refine v_iload_n C dX6_learnFloor_136 rfl ?_
      refine v_iconst C (3) dX6_learnFloor_137 (by decide) ?_
      refine v_icmp_ne C 145 dX6_learnFloor_138 (by decide) (fun _ => ?_) (fun q => absurd q ((by decide)))
      refine v_iconst C (0) dX6_learnFloor_145 (by decide) ?_
      refine v_iconst C (1) dX6_learnFloor_146 (by decide) ?_
      refine v_callV C dX6_learnFloor_147 lk_X6_124 (m_row (d := 0) (m5 0 (nI (dg W n w 1)) 0 0 1) (by decide)) (by omega) rfl rfl rfl rfl rfl (Nat.le_of_ble_eq_true rfl) ?_
      rintro o h' ⟨rfl, rw', r1, r2, rfl⟩
      refine v_iinc C dX6_learnFloor_150 rfl (nI_1 1) (by decide) ?_
      refine v_goto C 77 dX6_learnFloor_153 (by decide) ?_
      refine v_keep [0, 1] (u2 rw' (rw_ext hR r1 r2 (all5 ?_ ?_ ?_ ?_ ?_)))
      · exact ⟨rfl, by show (-1 : Int) ≤ 0; decide, by show (0 : Int) ≤ 60; decide⟩
      · exact ⟨(sI_n (dg W n w 1)).symm, by show (-1 : Int) ≤ ((dg W n w 1 : Nat) : Int); omega, by show ((dg W n w 1 : Nat) : Int) ≤ 60; omega⟩
      · exact ⟨rfl, by show (-1 : Int) ≤ 0; decide, by show (0 : Int) ≤ 60; decide⟩
      · exact ⟨rfl, by show (-1 : Int) ≤ 0; decide, by show (0 : Int) ≤ 60; decide⟩
      · exact ⟨rfl, by show (-1 : Int) ≤ 1; decide, by show (1 : Int) ≤ 60; decide⟩
    refine v_iload_n C dX6_learnFloor_77 rfl ?_
    refine v_iconst C (4) dX6_learnFloor_78 (by decide) ?_
    refine v_icmp_ge C 156 dX6_learnFloor_79 (by decide) (fun q => absurd q ((by decide))) (fun _ => ?_)
    refine v_iload_n C dX6_learnFloor_82 rfl ?_
    refine v_aload_n C dX6_learnFloor_83 rfl ?_
    refine v_get C dX6_learnFloor_84 fl_X6_52 rfl rfl ?_
    by_cases e : 1 < n
    · refine v_icmp_ge C 104 dX6_learnFloor_87 (by decide) (fun q => absurd q (nI_ge (a := 1) e (by omega))) (fun _ => ?_)
      obtain ⟨w1, w2⟩ := hw60 1 e
      refine v_aload_n C dX6_learnFloor_90 rfl ?_
      refine v_get C dX6_learnFloor_91 fl_X6_7 rfl rfl ?_
      refine v_aload_n C dX6_learnFloor_94 rfl ?_
      refine v_get C dX6_learnFloor_95 fl_X6_13 rfl rfl ?_
      refine v_iload_n C dX6_learnFloor_98 rfl ?_
      refine v_iald C 1 dX6_learnFloor_99 rfl rfl (by decide) (by decide) ?_
      refine v_idiv C dX6_learnFloor_100 (nI_ne0 w1 (by omega)) ?_
      refine v_eq (st' := [.int (nI (dg W n w 1))]) ?_ rfl rfl rfl (by show [Value.int (nI W / nI (w 1))] = _; rw [nI_dv (by omega) w1 (by omega)]; unfold dg; rw [if_pos e])
      refine v_goto C 105 dX6_learnFloor_101 (by decide) ?_
      exact rest
    · refine v_icmp_ge C 104 dX6_learnFloor_87 (by decide) (fun _ => ?_) (fun q => absurd (nI_le (b := 1) (Nat.not_lt.mp e) (by decide)) q)
      refine v_iconst C (1) dX6_learnFloor_104 (by decide) ?_
      refine v_eq rest rfl rfl rfl (by unfold dg; rw [if_neg e]; rfl)
  have u0 : ∀ (rw : Nat → Int32), RW rw 4 (A0 W n w) → V 7 X (hM c (jJ W n w q) Q D (gG 1 tp bt rw 4 ch co un bc bu bm wk)) 77 [(0, .ref 22), (1, .int (nI 0))] [] := by
    intro rw hR
    have hx := dg_60 (n := n) (w := w) hW2 0
    have rest : V 7 X (hM c (jJ W n w q) Q D (gG 1 tp bt rw 4 ch co un bc bu bm wk)) 105 [(0, .ref 22), (1, .int (nI 0))] [.int (nI (dg W n w 0))] := by
      refine v_istore_n C dX6_learnFloor_105 (by decide) ?_
      refine v_aload_n C dX6_learnFloor_106 rfl ?_
      refine v_iload_n C dX6_learnFloor_107 rfl ?_
      refine v_if_ne C 115 dX6_learnFloor_108 (by decide) (fun q => absurd q ((fun z => z rfl))) (fun _ => ?_)
      refine v_iload_n C dX6_learnFloor_111 rfl ?_
      refine v_goto C 116 dX6_learnFloor_112 (by decide) ?_
      refine v_iload_n C dX6_learnFloor_116 rfl ?_
      refine v_iconst C (1) dX6_learnFloor_117 (by decide) ?_
      refine v_icmp_ne C 125 dX6_learnFloor_118 (by decide) (fun _ => ?_) (fun q => absurd q ((by decide)))
      refine v_iconst C (0) dX6_learnFloor_125 (by decide) ?_
      refine v_iload_n C dX6_learnFloor_126 rfl ?_
      refine v_iconst C (2) dX6_learnFloor_127 (by decide) ?_
      refine v_icmp_ne C 135 dX6_learnFloor_128 (by decide) (fun _ => ?_) (fun q => absurd q ((by decide)))
      refine v_iconst C (0) dX6_learnFloor_135 (by decide) ?_
      refine v_iload_n C dX6_learnFloor_136 rfl ?_
      refine v_iconst C (3) dX6_learnFloor_137 (by decide) ?_
      refine v_icmp_ne C 145 dX6_learnFloor_138 (by decide) (fun _ => ?_) (fun q => absurd q ((by decide)))
      refine v_iconst C (0) dX6_learnFloor_145 (by decide) ?_
      refine v_iconst C (1) dX6_learnFloor_146 (by decide) ?_
      refine v_callV C dX6_learnFloor_147 lk_X6_124 (m_row (d := 0) (m5 (nI (dg W n w 0)) 0 0 0 1) (by decide)) (by omega) rfl rfl rfl rfl rfl (Nat.le_of_ble_eq_true rfl) ?_
      rintro o h' ⟨rfl, rw', r1, r2, rfl⟩
      refine v_iinc C dX6_learnFloor_150 rfl (nI_1 0) (by decide) ?_
      refine v_goto C 77 dX6_learnFloor_153 (by decide) ?_
      refine v_keep [0, 1] (u1 rw' (rw_ext hR r1 r2 (all5 ?_ ?_ ?_ ?_ ?_)))
      · exact ⟨(sI_n (dg W n w 0)).symm, by show (-1 : Int) ≤ ((dg W n w 0 : Nat) : Int); omega, by show ((dg W n w 0 : Nat) : Int) ≤ 60; omega⟩
      · exact ⟨rfl, by show (-1 : Int) ≤ 0; decide, by show (0 : Int) ≤ 60; decide⟩
      · exact ⟨rfl, by show (-1 : Int) ≤ 0; decide, by show (0 : Int) ≤ 60; decide⟩
      · exact ⟨rfl, by show (-1 : Int) ≤ 0; decide, by show (0 : Int) ≤ 60; decide⟩
      · exact ⟨rfl, by show (-1 : Int) ≤ 1; decide, by show (1 : Int) ≤ 60; decide⟩
    refine v_iload_n C dX6_learnFloor_77 rfl ?_
    refine v_iconst C (4) dX6_learnFloor_78 (by decide) ?_
    refine v_icmp_ge C 156 dX6_learnFloor_79 (by decide) (fun q => absurd q ((by decide))) (fun _ => ?_)
    refine v_iload_n C dX6_learnFloor_82 rfl ?_
    refine v_aload_n C dX6_learnFloor_83 rfl ?_
    refine v_get C dX6_learnFloor_84 fl_X6_52 rfl rfl ?_
    by_cases e : 0 < n
    · refine v_icmp_ge C 104 dX6_learnFloor_87 (by decide) (fun q => absurd q (nI_ge (a := 0) e (by omega))) (fun _ => ?_)
      obtain ⟨w1, w2⟩ := hw60 0 e
      refine v_aload_n C dX6_learnFloor_90 rfl ?_
      refine v_get C dX6_learnFloor_91 fl_X6_7 rfl rfl ?_
      refine v_aload_n C dX6_learnFloor_94 rfl ?_
      refine v_get C dX6_learnFloor_95 fl_X6_13 rfl rfl ?_
      refine v_iload_n C dX6_learnFloor_98 rfl ?_
      refine v_iald C 0 dX6_learnFloor_99 rfl rfl (by decide) (by decide) ?_
      refine v_idiv C dX6_learnFloor_100 (nI_ne0 w1 (by omega)) ?_
      refine v_eq (st' := [.int (nI (dg W n w 0))]) ?_ rfl rfl rfl (by show [Value.int (nI W / nI (w 0))] = _; rw [nI_dv (by omega) w1 (by omega)]; unfold dg; rw [if_pos e])
      refine v_goto C 105 dX6_learnFloor_101 (by decide) ?_
      exact rest
    · refine v_icmp_ge C 104 dX6_learnFloor_87 (by decide) (fun _ => ?_) (fun q => absurd (nI_le (b := 0) (Nat.not_lt.mp e) (by decide)) q)
      refine v_iconst C (1) dX6_learnFloor_104 (by decide) ?_
      refine v_eq rest rfl rfl rfl (by unfold dg; rw [if_neg e]; rfl)
  have t4 : ∀ (rw : Nat → Int32), RW rw 4 (A0 W n w) → V 7 X (hM c (jJ W n w q) Q D (gG 1 tp bt rw 4 ch co un bc bu bm wk)) 20 [(0, .ref 22), (1, .int (nI 4))] [] := by
    intro rw hR
    refine v_iload_n C dX6_learnFloor_20 rfl ?_
    refine v_iconst C (4) dX6_learnFloor_21 (by decide) ?_
    refine v_icmp_ge C 75 dX6_learnFloor_22 (by decide) (fun _ => ?_) (fun q => absurd ((by decide)) q)
    refine v_iconst C (0) dX6_learnFloor_75 (by decide) ?_
    refine v_istore_n C dX6_learnFloor_76 (by decide) ?_
    exact u0 rw hR
  have t3 : ∀ (rw : Nat → Int32), RW rw 3 (A0 W n w) → V 7 X (hM c (jJ W n w q) Q D (gG 1 tp bt rw 3 ch co un bc bu bm wk)) 20 [(0, .ref 22), (1, .int (nI 3))] [] := by
    intro rw hR
    refine v_iload_n C dX6_learnFloor_20 rfl ?_
    refine v_iconst C (4) dX6_learnFloor_21 (by decide) ?_
    refine v_icmp_ge C 75 dX6_learnFloor_22 (by decide) (fun q => absurd q ((by decide))) (fun _ => ?_)
    refine v_aload_n C dX6_learnFloor_25 rfl ?_
    refine v_iload_n C dX6_learnFloor_26 rfl ?_
    refine v_if_ne C 34 dX6_learnFloor_27 (by decide) (fun _ => ?_) (fun q => absurd q ((by decide)))
    refine v_iconst C (0) dX6_learnFloor_34 (by decide) ?_
    refine v_iload_n C dX6_learnFloor_35 rfl ?_
    refine v_iconst C (1) dX6_learnFloor_36 (by decide) ?_
    refine v_icmp_ne C 44 dX6_learnFloor_37 (by decide) (fun _ => ?_) (fun q => absurd q ((by decide)))
    refine v_iconst C (0) dX6_learnFloor_44 (by decide) ?_
    refine v_iload_n C dX6_learnFloor_45 rfl ?_
    refine v_iconst C (2) dX6_learnFloor_46 (by decide) ?_
    refine v_icmp_ne C 54 dX6_learnFloor_47 (by decide) (fun _ => ?_) (fun q => absurd q ((by decide)))
    refine v_iconst C (0) dX6_learnFloor_54 (by decide) ?_
    refine v_iload_n C dX6_learnFloor_55 rfl ?_
    refine v_iconst C (3) dX6_learnFloor_56 (by decide) ?_
    refine v_icmp_ne C 64 dX6_learnFloor_57 (by decide) (fun q => absurd q ((fun z => z rfl))) (fun _ => ?_)
    refine v_iconst C (-1) dX6_learnFloor_60 (by decide) ?_
    refine v_goto C 65 dX6_learnFloor_61 (by decide) ?_
    refine v_iconst C (0) dX6_learnFloor_65 (by decide) ?_
    refine v_callV C dX6_learnFloor_66 lk_X6_124 (m_row (d := 0) (m5 0 0 0 (-1) 0) (by decide)) (by omega) rfl rfl rfl rfl rfl (Nat.le_of_ble_eq_true rfl) ?_
    rintro o h' ⟨rfl, rw', r1, r2, rfl⟩
    refine v_iinc C dX6_learnFloor_69 rfl (nI_1 3) (by decide) ?_
    refine v_goto C 20 dX6_learnFloor_72 (by decide) ?_
    refine t4 rw' (rw_ext hR r1 r2 (all5 ?_ ?_ ?_ ?_ ?_))
    · exact ⟨rfl, by show (-1 : Int) ≤ 0; decide, by show (0 : Int) ≤ 60; decide⟩
    · exact ⟨rfl, by show (-1 : Int) ≤ 0; decide, by show (0 : Int) ≤ 60; decide⟩
    · exact ⟨rfl, by show (-1 : Int) ≤ 0; decide, by show (0 : Int) ≤ 60; decide⟩
    · exact ⟨rfl, by show (-1 : Int) ≤ -1; decide, by show (-1 : Int) ≤ 60; decide⟩
    · exact ⟨rfl, by show (-1 : Int) ≤ 0; decide, by show (0 : Int) ≤ 60; decide⟩
  have t2 : ∀ (rw : Nat → Int32), RW rw 2 (A0 W n w) → V 7 X (hM c (jJ W n w q) Q D (gG 1 tp bt rw 2 ch co un bc bu bm wk)) 20 [(0, .ref 22), (1, .int (nI 2))] [] := by
    intro rw hR
    refine v_iload_n C dX6_learnFloor_20 rfl ?_
    refine v_iconst C (4) dX6_learnFloor_21 (by decide) ?_
    refine v_icmp_ge C 75 dX6_learnFloor_22 (by decide) (fun q => absurd q ((by decide))) (fun _ => ?_)
    refine v_aload_n C dX6_learnFloor_25 rfl ?_
    refine v_iload_n C dX6_learnFloor_26 rfl ?_
    refine v_if_ne C 34 dX6_learnFloor_27 (by decide) (fun _ => ?_) (fun q => absurd q ((by decide)))
    refine v_iconst C (0) dX6_learnFloor_34 (by decide) ?_
    refine v_iload_n C dX6_learnFloor_35 rfl ?_
    refine v_iconst C (1) dX6_learnFloor_36 (by decide) ?_
    refine v_icmp_ne C 44 dX6_learnFloor_37 (by decide) (fun _ => ?_) (fun q => absurd q ((by decide)))
    refine v_iconst C (0) dX6_learnFloor_44 (by decide) ?_
    refine v_iload_n C dX6_learnFloor_45 rfl ?_
    refine v_iconst C (2) dX6_learnFloor_46 (by decide) ?_
    refine v_icmp_ne C 54 dX6_learnFloor_47 (by decide) (fun q => absurd q ((fun z => z rfl))) (fun _ => ?_)
    refine v_iconst C (-1) dX6_learnFloor_50 (by decide) ?_
    refine v_goto C 55 dX6_learnFloor_51 (by decide) ?_
    refine v_iload_n C dX6_learnFloor_55 rfl ?_
    refine v_iconst C (3) dX6_learnFloor_56 (by decide) ?_
    refine v_icmp_ne C 64 dX6_learnFloor_57 (by decide) (fun _ => ?_) (fun q => absurd q ((by decide)))
    refine v_iconst C (0) dX6_learnFloor_64 (by decide) ?_
    refine v_iconst C (0) dX6_learnFloor_65 (by decide) ?_
    refine v_callV C dX6_learnFloor_66 lk_X6_124 (m_row (d := 0) (m5 0 0 (-1) 0 0) (by decide)) (by omega) rfl rfl rfl rfl rfl (Nat.le_of_ble_eq_true rfl) ?_
    rintro o h' ⟨rfl, rw', r1, r2, rfl⟩
    refine v_iinc C dX6_learnFloor_69 rfl (nI_1 2) (by decide) ?_
    refine v_goto C 20 dX6_learnFloor_72 (by decide) ?_
    refine t3 rw' (rw_ext hR r1 r2 (all5 ?_ ?_ ?_ ?_ ?_))
    · exact ⟨rfl, by show (-1 : Int) ≤ 0; decide, by show (0 : Int) ≤ 60; decide⟩
    · exact ⟨rfl, by show (-1 : Int) ≤ 0; decide, by show (0 : Int) ≤ 60; decide⟩
    · exact ⟨rfl, by show (-1 : Int) ≤ -1; decide, by show (-1 : Int) ≤ 60; decide⟩
    · exact ⟨rfl, by show (-1 : Int) ≤ 0; decide, by show (0 : Int) ≤ 60; decide⟩
    · exact ⟨rfl, by show (-1 : Int) ≤ 0; decide, by show (0 : Int) ≤ 60; decide⟩
  have t1 : ∀ (rw : Nat → Int32), RW rw 1 (A0 W n w) → V 7 X (hM c (jJ W n w q) Q D (gG 1 tp bt rw 1 ch co un bc bu bm wk)) 20 [(0, .ref 22), (1, .int (nI 1))] [] := by
    intro rw hR
    refine v_iload_n C dX6_learnFloor_20 rfl ?_
    refine v_iconst C (4) dX6_learnFloor_21 (by decide) ?_
    refine v_icmp_ge C 75 dX6_learnFloor_22 (by decide) (fun q => absurd q ((by decide))) (fun _ => ?_)
    refine v_aload_n C dX6_learnFloor_25 rfl ?_
    refine v_iload_n C dX6_learnFloor_26 rfl ?_
    refine v_if_ne C 34 dX6_learnFloor_27 (by decide) (fun _ => ?_) (fun q => absurd q ((by decide)))
    refine v_iconst C (0) dX6_learnFloor_34 (by decide) ?_
    refine v_iload_n C dX6_learnFloor_35 rfl ?_
    refine v_iconst C (1) dX6_learnFloor_36 (by decide) ?_
    refine v_icmp_ne C 44 dX6_learnFloor_37 (by decide) (fun q => absurd q ((fun z => z rfl))) (fun _ => ?_)
    refine v_iconst C (-1) dX6_learnFloor_40 (by decide) ?_
    refine v_goto C 45 dX6_learnFloor_41 (by decide) ?_
    refine v_iload_n C dX6_learnFloor_45 rfl ?_
    refine v_iconst C (2) dX6_learnFloor_46 (by decide) ?_
    refine v_icmp_ne C 54 dX6_learnFloor_47 (by decide) (fun _ => ?_) (fun q => absurd q ((by decide)))
    refine v_iconst C (0) dX6_learnFloor_54 (by decide) ?_
    refine v_iload_n C dX6_learnFloor_55 rfl ?_
    refine v_iconst C (3) dX6_learnFloor_56 (by decide) ?_
    refine v_icmp_ne C 64 dX6_learnFloor_57 (by decide) (fun _ => ?_) (fun q => absurd q ((by decide)))
    refine v_iconst C (0) dX6_learnFloor_64 (by decide) ?_
    refine v_iconst C (0) dX6_learnFloor_65 (by decide) ?_
    refine v_callV C dX6_learnFloor_66 lk_X6_124 (m_row (d := 0) (m5 0 (-1) 0 0 0) (by decide)) (by omega) rfl rfl rfl rfl rfl (Nat.le_of_ble_eq_true rfl) ?_
    rintro o h' ⟨rfl, rw', r1, r2, rfl⟩
    refine v_iinc C dX6_learnFloor_69 rfl (nI_1 1) (by decide) ?_
    refine v_goto C 20 dX6_learnFloor_72 (by decide) ?_
    refine t2 rw' (rw_ext hR r1 r2 (all5 ?_ ?_ ?_ ?_ ?_))
    · exact ⟨rfl, by show (-1 : Int) ≤ 0; decide, by show (0 : Int) ≤ 60; decide⟩
    · exact ⟨rfl, by show (-1 : Int) ≤ -1; decide, by show (-1 : Int) ≤ 60; decide⟩
    · exact ⟨rfl, by show (-1 : Int) ≤ 0; decide, by show (0 : Int) ≤ 60; decide⟩
    · exact ⟨rfl, by show (-1 : Int) ≤ 0; decide, by show (0 : Int) ≤ 60; decide⟩
    · exact ⟨rfl, by show (-1 : Int) ≤ 0; decide, by show (0 : Int) ≤ 60; decide⟩
  have t0 : ∀ (rw : Nat → Int32), RW rw 0 (A0 W n w) → V 7 X (hM c (jJ W n w q) Q D (gG 1 tp bt rw 0 ch co un bc bu bm wk)) 20 [(0, .ref 22), (1, .int (nI 0))] [] := by
    intro rw hR
    refine v_iload_n C dX6_learnFloor_20 rfl ?_
    refine v_iconst C (4) dX6_learnFloor_21 (by decide) ?_
    refine v_icmp_ge C 75 dX6_learnFloor_22 (by decide) (fun q => absurd q ((by decide))) (fun _ => ?_)
    refine v_aload_n C dX6_learnFloor_25 rfl ?_
    refine v_iload_n C dX6_learnFloor_26 rfl ?_
    refine v_if_ne C 34 dX6_learnFloor_27 (by decide) (fun q => absurd q ((fun z => z rfl))) (fun _ => ?_)
    refine v_iconst C (-1) dX6_learnFloor_30 (by decide) ?_
    refine v_goto C 35 dX6_learnFloor_31 (by decide) ?_
    refine v_iload_n C dX6_learnFloor_35 rfl ?_
    refine v_iconst C (1) dX6_learnFloor_36 (by decide) ?_
    refine v_icmp_ne C 44 dX6_learnFloor_37 (by decide) (fun _ => ?_) (fun q => absurd q ((by decide)))
    refine v_iconst C (0) dX6_learnFloor_44 (by decide) ?_
    refine v_iload_n C dX6_learnFloor_45 rfl ?_
    refine v_iconst C (2) dX6_learnFloor_46 (by decide) ?_
    refine v_icmp_ne C 54 dX6_learnFloor_47 (by decide) (fun _ => ?_) (fun q => absurd q ((by decide)))
    refine v_iconst C (0) dX6_learnFloor_54 (by decide) ?_
    refine v_iload_n C dX6_learnFloor_55 rfl ?_
    refine v_iconst C (3) dX6_learnFloor_56 (by decide) ?_
    refine v_icmp_ne C 64 dX6_learnFloor_57 (by decide) (fun _ => ?_) (fun q => absurd q ((by decide)))
    refine v_iconst C (0) dX6_learnFloor_64 (by decide) ?_
    refine v_iconst C (0) dX6_learnFloor_65 (by decide) ?_
    refine v_callV C dX6_learnFloor_66 lk_X6_124 (m_row (d := 0) (m5 (-1) 0 0 0 0) (by decide)) (by omega) rfl rfl rfl rfl rfl (Nat.le_of_ble_eq_true rfl) ?_
    rintro o h' ⟨rfl, rw', r1, r2, rfl⟩
    refine v_iinc C dX6_learnFloor_69 rfl (nI_1 0) (by decide) ?_
    refine v_goto C 20 dX6_learnFloor_72 (by decide) ?_
    refine t1 rw' (rw_ext hR r1 r2 (all5 ?_ ?_ ?_ ?_ ?_))
    · exact ⟨rfl, by show (-1 : Int) ≤ -1; decide, by show (-1 : Int) ≤ 60; decide⟩
    · exact ⟨rfl, by show (-1 : Int) ≤ 0; decide, by show (0 : Int) ≤ 60; decide⟩
    · exact ⟨rfl, by show (-1 : Int) ≤ 0; decide, by show (0 : Int) ≤ 60; decide⟩
    · exact ⟨rfl, by show (-1 : Int) ≤ 0; decide, by show (0 : Int) ≤ 60; decide⟩
    · exact ⟨rfl, by show (-1 : Int) ≤ 0; decide, by show (0 : Int) ≤ 60; decide⟩
  refine v_aload_n C dX6_learnFloor_0 rfl ?_
  refine v_get C dX6_learnFloor_1 fl_X6_49 rfl rfl ?_
  refine v_if_eq C 8 dX6_learnFloor_4 (by decide) (fun _ => ?_) (fun q => absurd (rfl) q)
  refine v_aload_n C dX6_learnFloor_8 rfl ?_
  refine v_iconst C (1) dX6_learnFloor_9 (by decide) ?_
  refine v_put C dX6_learnFloor_10 fp_X6_49 rfl (fun _ => rfl) (fun _ => rfl) (Nat.le_of_ble_eq_true rfl) ?_
  refine v_aload_n C dX6_learnFloor_13 rfl ?_
  refine v_iconst C (0) dX6_learnFloor_14 (by decide) ?_
  refine v_put C dX6_learnFloor_15 fp_X6_100 rfl (fun _ => rfl) (fun _ => rfl) (Nat.le_of_ble_eq_true rfl) ?_
  refine v_iconst C (0) dX6_learnFloor_18 (by decide) ?_
  refine v_istore_n C dX6_learnFloor_19 (by decide) ?_
  exact t0 rw0 (fun r hr => absurd hr (Nat.not_lt_zero r))
end LEARNF
set_option maxHeartbeats 4000000 in
set_option maxRecDepth 100000 in
theorem floorM : FloorM := by
  intro c W n w q Q D G hM0 hF
  refine ⟨?_, ?_⟩
  · refine con_of [(0, .ref 22)] (by decide) (fun _ => Nat.le_of_ble_eq_true rfl) (fun _ => rfl) (fun X C E => ?_)
    refine v_aload_n C dX6_floorTop_0 rfl ?_
    refine v_callV C dX6_floorTop_1 lk_X6_137 (m_learnFloor (d := 4) hM0 hF (by decide)) (by decide) rfl rfl rfl rfl rfl (Nat.le_of_ble_eq_true rfl) ?_
    rintro o h' ⟨rfl, D', G', T, B, rfl, g1, g2, g3, g4⟩
    refine v_aload_n C dX6_floorTop_4 rfl ?_
    refine v_get C dX6_floorTop_5 fl_X6_131 rfl rfl ?_
    exact v_lret C E dX6_floorTop_8 ⟨D', G', Or.inr ⟨g1, T, B, g2, g3, g4⟩, rfl, T, B, g2, congrArg (fun z => some (Value.long z)) g3⟩
  · refine con_of [(0, .ref 22)] (by decide) (fun _ => Nat.le_of_ble_eq_true rfl) (fun _ => rfl) (fun X C E => ?_)
    refine v_aload_n C dX6_floorBottom_0 rfl ?_
    refine v_callV C dX6_floorBottom_1 lk_X6_137 (m_learnFloor (d := 4) hM0 hF (by decide)) (by decide) rfl rfl rfl rfl rfl (Nat.le_of_ble_eq_true rfl) ?_
    rintro o h' ⟨rfl, D', G', T, B, rfl, g1, g2, g3, g4⟩
    refine v_aload_n C dX6_floorBottom_4 rfl ?_
    refine v_get C dX6_floorBottom_5 fl_X6_134 rfl rfl ?_
    exact v_lret C E dX6_floorBottom_8 ⟨D', G', Or.inr ⟨g1, T, B, g2, g3, g4⟩, rfl, T, B, g2, congrArg (fun z => some (Value.long z)) g4⟩
