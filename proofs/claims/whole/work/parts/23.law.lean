/-! the law's loop, over the floor's contracts as hypotheses (FloorC, FloorM) -/
def IsFl (W n : Nat) (w q : Nat → Nat) (T B : Int) : Prop := 0 < B ∧ Int.gcd T B = 1 ∧ (∃ (y : Nat → Int) (Y : Int), 0 < Y ∧ (∀ p : Nat → Nat, ps w p n ≤ W → vl y p n ≤ Y) ∧ vl y q n * B = T * Y) ∧ ∀ (y : Nat → Int) (Y : Int), 0 < Y → (∀ p : Nat → Nat, ps w p n ≤ W → vl y p n ≤ Y) → vl y q n * B ≤ T * Y
def FK (W n : Nat) (w q : Nat → Nat) (G : SG) : Prop := G.1 = 0 ∨ (G.1 = 1 ∧ ∃ T B, IsFl W n w (qn n q) T B ∧ G.2.1 = lI T ∧ G.2.2.1 = lI B)
/-- the reference's cells -/
def TM (W n : Nat) (w q : Nat → Nat) (tl : List PC) : Prop := ∃ (fe pn : Nat → Nat) (pd : Nat) (ik : Int32) (D : Nat → Int32) (G : SG), MOk W n w q ∧ (∀ j, j < 2401 → fe j ≤ 99) ∧ (ik = 0 ∨ (ik = 1 ∧ Known W n w q fe pn pd)) ∧ FK W n w q G ∧ tl = mt (jJ W n w q) (iN fe, iN pn, nI pd, ik) D G
def FloorC : Prop := ∀ (W n : Nat) (w q : Nat → Nat) (h tl : List PC), CA W n w q h tl → Con yX5_floorTop cX5_floorTop 1 (some .long) 5 [.ref 0] h (fun r h' => CA W n w q h' tl ∧ ∃ T B, IsFl W n w q T B ∧ r = some (.long (lI T))) ∧ Con yX5_floorBottom cX5_floorBottom 1 (some .long) 5 [.ref 0] h (fun r h' => CA W n w q h' tl ∧ ∃ T B, IsFl W n w q T B ∧ r = some (.long (lI B)))
def FloorM : Prop := ∀ (c : Nat → PC) (W n : Nat) (w q : Nat → Nat) (Q : SQ) (D : Nat → Int32) (G : SG), MOk W n w q → FK W n w q G → Con yX6_floorTop cX6_floorTop 1 (some .long) 5 [.ref 22] (hM c (jJ W n w q) Q D G) (fun r h' => ∃ D' G', FK W n w q G' ∧ h' = hM c (jJ W n w q) Q D' G' ∧ ∃ T B, IsFl W n w (qn n q) T B ∧ r = some (.long (lI T))) ∧ Con yX6_floorBottom cX6_floorBottom 1 (some .long) 5 [.ref 22] (hM c (jJ W n w q) Q D G) (fun r h' => ∃ D' G', FK W n w q G' ∧ h' = hM c (jJ W n w q) Q D' G' ∧ ∃ T B, IsFl W n w (qn n q) T B ∧ r = some (.long (lI B)))
def Agr (n : Nat) (w q w' q' : Nat → Nat) : Prop := ∀ k, k < n → w k = w' k ∧ q k = q' k
def LawI (h : List PC) : Prop := ∃ (W n : Nat) (w q w' q' : Nat → Nat) (tl : List PC), CA W n w q h tl ∧ TM W n w' q' tl ∧ Agr n w q w' q'
theorem CA_swap {W n : Nat} {w q : Nat → Nat} {h tl : List PC} (ha : CA W n w q h tl) : ∃ c : Nat → PC, h = hd22 c tl ∧ ∀ tl', CA W n w q (hd22 c tl') tl' := by
  obtain ⟨l, sd, cu, re, pa, N, F, a, b, c, e, rfl⟩ := ha
  exact ⟨fun k => (hC (jJ W n w q) (iN l) (pP sd cu re pa) N F []).getD k (pI 0 (fun _ => 0)), rfl, fun tl' => ⟨l, sd, cu, re, pa, N, F, a, b, c, e, rfl⟩⟩
theorem CA_n {W n : Nat} {w q : Nat → Nat} {h tl : List PC} (ha : CA W n w q h tl) : n ≤ 4 ∧ W ≤ 60 ∧ Cnt n q := by
  obtain ⟨l, sd, cu, re, pa, N, F, a, b, c, e, rfl⟩ := ha
  exact ⟨a.1, a.2.2.1, b⟩
theorem CA_obj {W n : Nat} {w q : Nat → Nat} {h tl : List PC} (ha : CA W n w q h tl) : h[0]? = some (pO 5 [.ref 1, .ref 4, .ref 6, .ref 10, .ref 14]) := by
  obtain ⟨l, sd, cu, re, pa, N, F, a, b, c, e, rfl⟩ := ha
  rfl
/-! what both sides say of the same numbers is the same -/
theorem wt_w {n : Nat} {w w' p : Nat → Nat} (h : ∀ k, k < n → w k = w' k) (hz : ∀ k, n ≤ k → k < 4 → p k = 0) : wt w p = wt w' p := by
  have key : ∀ k, k < 4 → p k * w k = p k * w' k := fun k hk => by
    by_cases e : k < n
    · rw [h k e]
    · rw [hz k (by omega) hk, Nat.zero_mul, Nat.zero_mul]
  unfold wt
  rw [key 0 (by omega), key 1 (by omega), key 2 (by omega), key 3 (by omega)]
theorem pk_w {W n : Nat} {w w' : Nat → Nat} (h : ∀ k, k < n → w k = w' k) : ∀ (m : Nat) (v : Nat → Nat), (∀ k, n ≤ k → k < 4 → v k = 0) → Pk W w m v → Pk W w' m v
  | 0, _, _, hp => hp
  | m + 1, v, hv, ⟨p, h1, h2, h3⟩ => by
    have hz : ∀ k, n ≤ k → k < 4 → p k = 0 := fun k a b => by have := h1 k b; have := hv k a b; omega
    exact ⟨p, h1, by rw [← wt_w h hz]; exact h2, pk_w h m _ (fun k a b => by show v k - p k = 0; have := hv k a b; omega) h3⟩
theorem isF_w {W n m : Nat} {w w' v v' : Nat → Nat} (h : ∀ k, k < n → w k = w' k) (hv : ∀ k, n ≤ k → k < 4 → v k = 0) (e : eq4 v v') (hF : IsF W w v m) : IsF W w' v' m := by
  have hv' : ∀ k, n ≤ k → k < 4 → v' k = 0 := fun k a b => by rw [← e k b]; exact hv k a b
  refine isF_congr e ⟨pk_w h m v hv hF.1, fun m' z => hF.2 m' (pk_w (fun k hk => (h k hk).symm) m' v hv z)⟩
theorem gd_w {W n : Nat} {w w' v p : Nat → Nat} (h : ∀ k, k < n → w k = w' k) (hv : ∀ k, n ≤ k → k < 4 → v k = 0) (hg : Gd W n w v p) : Gd W n w' v p := by
  obtain ⟨h1, h2, m, h3, h4⟩ := hg
  have hz : ∀ k, n ≤ k → k < 4 → p k = 0 := fun k a b => by have := h1 k b; have := hv k a b; omega
  exact ⟨h1, by rw [← wt_w h hz]; exact h2, m, pk_w h m _ (fun k a b => by show v k - p k = 0; have := hv k a b; omega) h3, fun z => h4 (pk_w (fun k hk => (h k hk).symm) m v hv z)⟩
/-- there is one best plan -/
theorem plan_uniq {W n m : Nat} {w w' v v' cu cu' : Nat → Nat} (h : ∀ k, k < n → w k = w' k) (hv : ∀ k, n ≤ k → k < 4 → v k = 0) (e : eq4 v v') (h1 : PlanOK W n w v m cu) (h2 : PlanOK W n w' v' m cu') : ∀ i k, i < m → k < 4 → cu (4 * i + k) = cu' (4 * i + k) := by
  obtain ⟨vs, a1, a2⟩ := h1
  obtain ⟨us, b1, b2⟩ := h2
  have row : ∀ i, i < m → eq4 (vs i) (us i) → (∀ k, n ≤ k → k < 4 → vs i k = 0) → eq4 (fun k => cu (4 * i + k)) (fun k => cu' (4 * i + k)) := by
    intro i hi he hz
    obtain ⟨p1, -⟩ := a2 i hi
    obtain ⟨p2, -⟩ := b2 i hi
    have hz' : ∀ k, n ≤ k → k < 4 → us i k = 0 := fun k a b => by rw [← he k b]; exact hz k a b
    have g1 : Gd W n w' (us i) (fun k => cu (4 * i + k)) := gd_congr he (fun _ _ => rfl) (gd_w h hz p1.1)
    have g2 : Gd W n w (vs i) (fun k => cu' (4 * i + k)) := gd_congr (fun k hk => (he k hk).symm) (fun _ _ => rfl) (gd_w (fun k hk => (h k hk).symm) hz' p2.1)
    rcases p2.2 _ g1 with c | c
    · rcases p1.2 _ g2 with d | d
      · obtain ⟨j, c1, c2, c3⟩ := ltx_ex 4 c
        obtain ⟨i', d1, d2, d3⟩ := ltx_ex 4 d
        exfalso
        rcases Nat.lt_trichotomy j i' with q | q | q
        · have := d2 j q; omega
        · subst q; omega
        · have := c2 i' q; omega
      · exact fun k hk => (d k hk).symm
    · exact c
  have key : ∀ i, i ≤ m → eq4 (vs i) (us i) ∧ ∀ k, n ≤ k → k < 4 → vs i k = 0 := by
    intro i
    induction i with
    | zero => intro _; exact ⟨fun k hk => by rw [a1 k hk, e k hk, b1 k hk], fun k x y => by rw [a1 k y]; exact hv k x y⟩
    | succ i ih =>
      intro hi
      obtain ⟨c1, c2⟩ := ih (by omega)
      have hr := row i (by omega) c1 c2
      obtain ⟨-, d1⟩ := a2 i (by omega)
      obtain ⟨-, d2⟩ := b2 i (by omega)
      refine ⟨fun k hk => ?_, fun k x y => ?_⟩
      · rw [d1 k hk, d2 k hk]
        show vs i k - cu (4 * i + k) = us i k - cu' (4 * i + k)
        have e9 : cu (4 * i + k) = cu' (4 * i + k) := hr k hk
        rw [c1 k hk, e9]
      · rw [d1 k y]
        show vs i k - cu (4 * i + k) = 0
        rw [c2 k x y]
        exact Nat.zero_sub _
  intro i k hi hk
  obtain ⟨c1, c2⟩ := key i (by omega)
  exact row i hi c1 c2 k hk
theorem ps_w {n : Nat} {w w' p : Nat → Nat} : ∀ m, m ≤ n → (∀ k, k < n → w k = w' k) → ps w p m = ps w' p m
  | 0, _, _ => rfl
  | m + 1, h, e => by
    show ps w p m + p m * w m = ps w' p m + p m * w' m
    rw [ps_w m (by omega) e, e m (by omega)]
theorem isMx_w {W n : Nat} {w w' : Nat → Nat} {wo : Nat → Int} {m : Int} (h : ∀ k, k < n → w k = w' k) (hm : IsMx W n w wo m) : IsMx W n w' wo m := by
  obtain ⟨h1, p, h2, h3⟩ := hm
  exact ⟨fun p hp => h1 p (by rw [ps_w n (Nat.le_refl n) h]; exact hp), p, by rw [← ps_w n (Nat.le_refl n) h]; exact h2, h3⟩
theorem isFl_w {W n : Nat} {w w' q q' : Nat → Nat} {T B : Int} (h : ∀ k, k < n → w k = w' k) (e : ∀ k, k < n → q k = q' k) (hf : IsFl W n w q T B) : IsFl W n w' q' T B := by
  obtain ⟨h1, h2, ⟨y, Y, h3, h4, h5⟩, h6⟩ := hf
  have eq : ∀ y : Nat → Int, vl y q n = vl y q' n := fun y => vl_congr n (fun k hk => ⟨rfl, e k hk⟩)
  refine ⟨h1, h2, ⟨y, Y, h3, fun p hp => h4 p (by rw [ps_w n (Nat.le_refl n) h]; exact hp), by rw [← eq]; exact h5⟩, fun y Y a b => ?_⟩
  rw [← eq]
  exact h6 y Y a (fun p hp => b p (by rw [← ps_w n (Nat.le_refl n) h]; exact hp))
theorem isFl_uniq {W n : Nat} {w q : Nat → Nat} {T B T' B' : Int} (h : IsFl W n w q T B) (h' : IsFl W n w q T' B') : T = T' ∧ B = B' := by
  obtain ⟨b1, g1, ⟨y, Y, y1, y2, y3⟩, m1⟩ := h
  obtain ⟨b2, g2, ⟨z, Z, z1, z2, z3⟩, m2⟩ := h'
  have key : ∀ (T B T' B' v Y : Int), 0 < Y → 0 < B → 0 < B' → v * B = T * Y → v * B' ≤ T' * Y → T * B' ≤ T' * B := by
    intro T B T' B' v Y hY hB hB' e l
    have h1 : v * B' * B ≤ T' * Y * B := Int.mul_le_mul_of_nonneg_right l (by omega)
    have h2 : v * B' * B = T * B' * Y := by
      rw [Int.mul_assoc, Int.mul_comm B' B, ← Int.mul_assoc, e, Int.mul_assoc, Int.mul_comm Y B', ← Int.mul_assoc]
    have h3 : T' * Y * B = T' * B * Y := by rw [Int.mul_assoc, Int.mul_comm Y B, ← Int.mul_assoc]
    rw [h2, h3] at h1
    exact Int.le_of_mul_le_mul_right h1 hY
  have l1 := key T B T' B' _ Y y1 b1 b2 y3 (m2 y Y y1 y2)
  have l2 := key T' B' T B _ Z z1 b2 b1 z3 (m1 z Z z1 z2)
  have e : T * B' = T' * B := Int.le_antisymm l1 l2
  have d1 : B ∣ B' := by
    have : B ∣ T * B' := ⟨T', by rw [e, Int.mul_comm]⟩
    have h3 := Int.dvd_gcd_mul_iff_dvd_mul.mpr this
    rw [Int.gcd_comm, g1] at h3
    simpa using h3
  have d2 : B' ∣ B := by
    have : B' ∣ T' * B := ⟨T, by rw [← e, Int.mul_comm]⟩
    have h3 := Int.dvd_gcd_mul_iff_dvd_mul.mpr this
    rw [Int.gcd_comm, g2] at h3
    simpa using h3
  have eB : B = B' := Int.le_antisymm (Int.le_of_dvd b2 d1) (Int.le_of_dvd b1 d2)
  subst eB
  exact ⟨Int.eq_of_mul_eq_mul_right (by omega) e, rfl⟩
/-- the script, label 1001 -/
def SX (L : Nat) (sc : Nat → Int32) (X : MX) : Prop := va_X (xas X 1001) L sc (xs X) (xs X).heap ∧ xas X 1001 < (xs X).heap.size ∧ ¬ xA X (xas X 1001)
section LAWR
variable {own : String} {cc : ByteArray} {nL : Nat} {ret : Option FieldType} {d : Nat} {X : MX} {h : List PC} {pc : Nat} {lv : List (Nat × Value)} {st : List Value} {L : Nat} {sc : Nat → Int32}
theorem v_sld (C : Cx own cc nL ret d X) (S : SX L sc X) {i : Int32} (j : Nat) (hd : decode cc pc = .ok (.iaload, 1)) (hi : i = nI j) (hj : j < L) (hL : L < 2 ^ 31) (kk : V nL X h (pc + 1) lv (.int (sc j) :: st)) : V nL X h pc lv (.int i :: .ref 1001 :: st) := fun H locs ls hP hD hS hl => by
  subst hi
  refine va_sld C.1 C.2.1 S.1 S.2.1 S.2.2 hS (nI_in' hj hL) hd ?_
  rw [nI_clamp (Nat.lt_trans hj hL)]
  exact kk H locs ls hP hD hS hl
theorem v_slen (C : Cx own cc nL ret d X) (S : SX L sc X) (hd : decode cc pc = .ok (.arraylength, 1)) (kk : V nL X h (pc + 1) lv (.int (nI L) :: st)) : V nL X h pc lv (.ref 1001 :: st) := fun H locs ls hP hD hS hl =>
  va_slen C.1 C.2.1 S.1 S.2.1 S.2.2 hS hd (kk H locs ls hP hD hS hl)
theorem v_tin (C : Cx own cc nL ret d X) {dflt lo hi : Int} {offs : Array Int} {len : Nat} {x : Int32} {off : Int} (tgt : Nat) (hd : decode cc pc = .ok (.tableswitch dflt lo hi offs, len)) (h1 : ¬ x.toInt < lo) (h2 : ¬ hi < x.toInt) (ho : offs[(x.toInt - lo).toNat]? = some off) (ht : (pc : Int) + off = (tgt : Int)) (kk : V nL X h tgt lv st) : V nL X h pc lv (.int x :: st) := fun H locs ls hP hD hS hl =>
  lv_tableIn C.1 C.2.1 hd h1 h2 ho ht (kk H locs ls hP hD hS hl)
theorem v_tout (C : Cx own cc nL ret d X) {dflt lo hi : Int} {offs : Array Int} {len : Nat} {x : Int32} (tgt : Nat) (hd : decode cc pc = .ok (.tableswitch dflt lo hi offs, len)) (h1 : x.toInt < lo ∨ hi < x.toInt) (ht : (pc : Int) + dflt = (tgt : Int)) (kk : V nL X h tgt lv st) : V nL X h pc lv (.int x :: st) := fun H locs ls hP hD hS hl =>
  lv_tableOut C.1 C.2.1 hd h1 ht (kk H locs ls hP hD hS hl)
end LAWR
theorem law_gt {L i : Nat} (hL : L ≤ 2560) (hi : i ≤ 2570) : (nI L - 5 < nI i) ↔ L < i + 5 := by
  rw [Int32.lt_iff_toInt_lt, show (5 : Int32) = nI 5 from rfl, pk_sub_toInt (by omega) (by omega), nI_toInt (by omega)]
  omega
theorem one_60 {V1 : Nat} (h1 : 1 ≤ V1) (h2 : V1 ≤ 60) : ¬ nI V1 < 1 ∧ nI V1 ≤ 60 := ⟨nI_nlt (a := V1) (b := 1) h1 (by omega), nI_le (b := 60) h2 (by omega)⟩
section LAWL
variable {L : Nat} {sc : Nat → Int32} {X : MX}
set_option maxHeartbeats 16000000 in
set_option maxRecDepth 100000 in
theorem law_loop_open (fc : FloorC) (fm : FloorM) (hL : L ≤ 2560) (C : Cx RL cL_law 4 (some .boolean) 6 X) (S : SX L sc X)
    (fin : ∀ h lv, V 4 X h 441 lv [.int 1]) : ∀ (m i : Nat) (h : List PC), L + 5 ≤ i + m → i ≤ L → LawI h → V 4 X h 18 [(0, .ref 1001), (1, .ref 0), (2, .ref 22), (3, .int (nI i))] [] := by
  intro m
  induction m with
  | zero =>
    intro i h h1 h2
    exact absurd h1 (by omega)
  | succ m ih =>
    intro i h hm hi hI
    refine v_iload_n C dL_law_18 rfl ?_
    refine v_aload_n C dL_law_19 rfl ?_
    refine v_slen C S dL_law_20 ?_
    refine v_iconst C (5) dL_law_21 (by decide) ?_
    refine v_isub C dL_law_22 ?_
    by_cases hlt : L < i + 5
    · refine v_icmp_gt C 440 dL_law_23 (by decide) (fun _ => ?_) (fun z => absurd ((law_gt hL (by omega)).mpr hlt) z)
      refine v_iconst C (1) dL_law_440 (by decide) ?_
      exact fin _ _
    refine v_icmp_gt C 440 dL_law_23 (by decide) (fun z => absurd ((law_gt hL (by omega)).mp z) hlt) (fun _ => ?_)
    have next : ∀ h, LawI h → V 4 X h 434 [(0, .ref 1001), (1, .ref 0), (2, .ref 22), (3, .int (nI i))] [] := by
      intro h hI
      refine v_iinc C dL_law_434 rfl (show nI i + nI 5 = nI (i + 5) from nI_add i 5) (by decide) ?_
      refine v_goto C 18 dL_law_437 (by decide) ?_
      exact ih (i + 5) h (by omega) (by omega) hI
    refine v_aload_n C dL_law_26 rfl ?_
    refine v_iload_n C dL_law_27 rfl ?_
    refine v_sld C S i dL_law_28 rfl (by omega) (by omega) ?_
    refine v_bipush C (15) dL_law_29 (by decide) ?_
    refine v_iand C dL_law_31 ?_
    obtain ⟨k, hk, ek⟩ := pk_andE (sc i) (m := 15) 4 rfl
    refine v_eq (st' := [.int (nI k)]) ?_ rfl rfl rfl (congrArg (fun z => [Value.int z]) ek)
    have tk : (nI k).toInt = (k : Int) := nI_toInt (by omega)
    obtain ⟨W, n, w, q, w', q', tl, ca, ⟨fe, pn, pd, ik, D, G, mok, hfe, hkn, hfk, rfl⟩, ag⟩ := hI
    have agw : ∀ k, k < n → w k = w' k := fun k hk => (ag k hk).1
    have agq : ∀ k, k < n → q k = q' k := fun k hk => (ag k hk).2
    obtain ⟨hn, hW2, hq⟩ := CA_n ca
    have eqq : eq4 q (qn n q') := fun k hk => by
      unfold qn
      split
      · rename_i e; exact agq k e
      · exact hq.2 k (by omega) hk
    have eww : ∀ k, k < n → w k = qn n w' k := fun k hk => by rw [agw k hk]; exact (if_pos hk).symm
    by_cases big : 11 < k
    · refine v_tout C 434 dL_law_32 (Or.inr (by rw [tk]; omega)) (by decide) ?_
      exact next h ⟨W, n, w, q, w', q', _, ca, ⟨fe, pn, pd, ik, D, G, mok, hfe, hkn, hfk, rfl⟩, ag⟩
    match k, big, tk with
    | 0, _, tk =>
      refine v_tin C 96 dL_law_32 (by rw [tk]; decide) (by rw [tk]; decide) (off := 64) (by rw [tk]; rfl) (by decide) ?_
      refine v_aload_n C dL_law_96 rfl ?_
      refine v_aload_n C dL_law_97 rfl ?_
      refine v_iload_n C dL_law_98 rfl ?_
      refine v_iconst C (1) dL_law_99 (by decide) ?_
      refine v_iadd C dL_law_100 ?_
      refine v_sld C S (i + 1) dL_law_101 (by show nI i + nI 1 = _; rw [nI_add]) (by omega) (by omega) ?_
      refine v_callV C dL_law_102 lk_L_13 (c_begin (d := 5) (sc (i + 1)) ca (by decide)) (by decide) (CA_obj ca) rfl rfl rfl rfl (Nat.le_of_ble_eq_true rfl) ?_
      rintro r1 h1 hc
      rcases hc with ⟨c1, rfl, rfl⟩ | ⟨V1, e1, v1, v2, rfl, q2, ca2⟩
      · obtain ⟨c, rfl, sw⟩ := CA_swap ca
        refine v_aload_n C dL_law_105 rfl ?_
        refine v_aload_n C dL_law_106 rfl ?_
        refine v_iload_n C dL_law_107 rfl ?_
        refine v_iconst C (1) dL_law_108 (by decide) ?_
        refine v_iadd C dL_law_109 ?_
        refine v_sld C S (i + 1) dL_law_110 (by show nI i + nI 1 = _; rw [nI_add]) (by omega) (by omega) ?_
        refine v_callV C dL_law_111 lk_L_17 (m_begin (d := 5) (sc (i + 1)) (by decide)) (by decide) rfl rfl rfl rfl rfl (Nat.le_of_ble_eq_true rfl) ?_
        rintro r2 h2 hm
        rcases hm with ⟨m1, rfl, rfl⟩ | ⟨V2, e2, u1, u2, rfl, rfl⟩
        · refine v_icmp_eq C 434 dL_law_114 (by decide) (fun _ => ?_) (fun z => absurd (rfl) z)
          exact next _ ⟨W, n, w, q, w', q', _, sw _, ⟨fe, pn, pd, ik, D, G, mok, hfe, hkn, hfk, rfl⟩, ag⟩
        · exact absurd (e2 ▸ one_60 u1 u2) c1
      · obtain ⟨c, rfl, sw⟩ := CA_swap ca2
        refine v_aload_n C dL_law_105 rfl ?_
        refine v_aload_n C dL_law_106 rfl ?_
        refine v_iload_n C dL_law_107 rfl ?_
        refine v_iconst C (1) dL_law_108 (by decide) ?_
        refine v_iadd C dL_law_109 ?_
        refine v_sld C S (i + 1) dL_law_110 (by show nI i + nI 1 = _; rw [nI_add]) (by omega) (by omega) ?_
        refine v_callV C dL_law_111 lk_L_17 (m_begin (d := 5) (sc (i + 1)) (by decide)) (by decide) rfl rfl rfl rfl rfl (Nat.le_of_ble_eq_true rfl) ?_
        rintro r2 h2 hm
        rcases hm with ⟨m1, rfl, rfl⟩ | ⟨V2, e2, u1, u2, rfl, rfl⟩
        · exact absurd (e1 ▸ one_60 v1 v2) m1
        · refine v_icmp_eq C 434 dL_law_114 (by decide) (fun _ => ?_) (fun z => absurd (rfl) z)
          have e3 : V1 = V2 := (nI_eq (by omega) (by omega)).mp (e1.symm.trans e2)
          subst e3
          exact next _ ⟨V1, 0, w, q2, w', q', _, sw _, ⟨fe, pn, pd, 0, D, (0, G.2), ⟨by omega, by omega, by omega, fun k hk => absurd hk (Nat.not_lt_zero k), fun k hk => absurd hk (Nat.not_lt_zero k)⟩, hfe, Or.inl rfl, Or.inl rfl, rfl⟩, fun k hk => absurd hk (Nat.not_lt_zero k)⟩
    | 1, _, tk =>
      refine v_tin C 119 dL_law_32 (by rw [tk]; decide) (by rw [tk]; decide) (off := 87) (by rw [tk]; rfl) (by decide) ?_
      refine v_aload_n C dL_law_119 rfl ?_
      refine v_aload_n C dL_law_120 rfl ?_
      refine v_iload_n C dL_law_121 rfl ?_
      refine v_iconst C (1) dL_law_122 (by decide) ?_
      refine v_iadd C dL_law_123 ?_
      refine v_sld C S (i + 1) dL_law_124 (by show nI i + nI 1 = _; rw [nI_add]) (by omega) (by omega) ?_
      refine v_aload_n C dL_law_125 rfl ?_
      refine v_iload_n C dL_law_126 rfl ?_
      refine v_iconst C (2) dL_law_127 (by decide) ?_
      refine v_iadd C dL_law_128 ?_
      refine v_sld C S (i + 2) dL_law_129 (by show nI i + nI 2 = _; rw [nI_add]) (by omega) (by omega) ?_
      refine v_callV C dL_law_130 lk_L_18 (c_kind (d := 5) (sc (i + 1)) (sc (i + 2)) ca (by decide)) (by decide) (CA_obj ca) rfl rfl rfl rfl (Nat.le_of_ble_eq_true rfl) ?_
      rintro r1 h1 hc
      rcases hc with ⟨c1, rfl, rfl⟩ | ⟨a, b, c1, e1, e2, rfl, ca2⟩
      · obtain ⟨c, rfl, sw⟩ := CA_swap ca
        refine v_aload_n C dL_law_133 rfl ?_
        refine v_aload_n C dL_law_134 rfl ?_
        refine v_iload_n C dL_law_135 rfl ?_
        refine v_iconst C (1) dL_law_136 (by decide) ?_
        refine v_iadd C dL_law_137 ?_
        refine v_sld C S (i + 1) dL_law_138 (by show nI i + nI 1 = _; rw [nI_add]) (by omega) (by omega) ?_
        refine v_aload_n C dL_law_139 rfl ?_
        refine v_iload_n C dL_law_140 rfl ?_
        refine v_iconst C (2) dL_law_141 (by decide) ?_
        refine v_iadd C dL_law_142 ?_
        refine v_sld C S (i + 2) dL_law_143 (by show nI i + nI 2 = _; rw [nI_add]) (by omega) (by omega) ?_
        refine v_callV C dL_law_144 lk_L_22 (m_kind (d := 5) (sc (i + 1)) (sc (i + 2)) hn hW2 (by decide)) (by decide) rfl rfl rfl rfl rfl (Nat.le_of_ble_eq_true rfl) ?_
        rintro r2 h2 hm
        rcases hm with ⟨m1, rfl, rfl⟩ | ⟨a2, b2, m1, g1, g2, g3, g4, g5, rfl, rfl⟩
        · refine v_icmp_eq C 434 dL_law_147 (by decide) (fun _ => ?_) (fun z => absurd (rfl) z)
          exact next _ ⟨W, n, w, q, w', q', _, sw _, ⟨fe, pn, pd, ik, D, G, mok, hfe, hkn, hfk, rfl⟩, ag⟩
        · exact absurd m1 c1
      · obtain ⟨c, rfl, sw⟩ := CA_swap ca2
        refine v_aload_n C dL_law_133 rfl ?_
        refine v_aload_n C dL_law_134 rfl ?_
        refine v_iload_n C dL_law_135 rfl ?_
        refine v_iconst C (1) dL_law_136 (by decide) ?_
        refine v_iadd C dL_law_137 ?_
        refine v_sld C S (i + 1) dL_law_138 (by show nI i + nI 1 = _; rw [nI_add]) (by omega) (by omega) ?_
        refine v_aload_n C dL_law_139 rfl ?_
        refine v_iload_n C dL_law_140 rfl ?_
        refine v_iconst C (2) dL_law_141 (by decide) ?_
        refine v_iadd C dL_law_142 ?_
        refine v_sld C S (i + 2) dL_law_143 (by show nI i + nI 2 = _; rw [nI_add]) (by omega) (by omega) ?_
        refine v_callV C dL_law_144 lk_L_22 (m_kind (d := 5) (sc (i + 1)) (sc (i + 2)) hn hW2 (by decide)) (by decide) rfl rfl rfl rfl rfl (Nat.le_of_ble_eq_true rfl) ?_
        rintro r2 h2 hm
        rcases hm with ⟨m1, rfl, rfl⟩ | ⟨a2, b2, m1, g1, g2, g3, g4, g5, rfl, rfl⟩
        · exact absurd c1 m1
        · refine v_icmp_eq C 434 dL_law_147 (by decide) (fun _ => ?_) (fun z => absurd (rfl) z)
          have a9 : va_up w n a n ≤ W := by
            obtain ⟨l9, _, _, _, _, _, _, ok9, _⟩ := ca2
            exact (ok9.2.2.2.1 n (by omega)).2
          have b9 : va_up q n b n ≤ 6 := by
            have h9 := (CA_n ca2)
            exact h9.2.2.1 n (by omega)
          rw [show va_up w n a n = a from if_pos rfl] at a9
          rw [show va_up q n b n = b from if_pos rfl] at b9
          have e3 : a = a2 := (nI_eq (by omega) (by omega)).mp (e1.symm.trans g1)
          have e4 : b = b2 := (nI_eq (by omega) (by omega)).mp (e2.symm.trans g2)
          subst e3; subst e4
          refine next _ ⟨W, n + 1, va_up w n a, va_up q n b, va_up w' n a, va_up q' n b, _, sw _, ⟨fe, pn, pd, 0, D, (0, G.2), ⟨by have := m1.1; omega, mok.2.1, hW2, fun k hk => ?_, fun k hk => ?_⟩, hfe, Or.inl rfl, Or.inl rfl, rfl⟩, fun k hk => ?_⟩
          · unfold va_up
            split
            · exact ⟨g4, g3⟩
            · exact mok.2.2.2.1 k (by omega)
          · unfold va_up
            split
            · exact g5
            · exact mok.2.2.2.2 k (by omega)
          · unfold va_up
            by_cases e5 : k = n
            · rw [if_pos e5, if_pos e5, if_pos e5, if_pos e5]; exact ⟨rfl, rfl⟩
            · rw [if_neg e5, if_neg e5, if_neg e5, if_neg e5]; exact ag k (by omega)
    | 2, _, tk =>
      refine v_tin C 152 dL_law_32 (by rw [tk]; decide) (by rw [tk]; decide) (off := 120) (by rw [tk]; rfl) (by decide) ?_
      refine v_aload_n C dL_law_152 rfl ?_
      refine v_aload_n C dL_law_153 rfl ?_
      refine v_iload_n C dL_law_154 rfl ?_
      refine v_iconst C (1) dL_law_155 (by decide) ?_
      refine v_iadd C dL_law_156 ?_
      refine v_sld C S (i + 1) dL_law_157 (by show nI i + nI 1 = _; rw [nI_add]) (by omega) (by omega) ?_
      refine v_aload_n C dL_law_158 rfl ?_
      refine v_iload_n C dL_law_159 rfl ?_
      refine v_iconst C (2) dL_law_160 (by decide) ?_
      refine v_iadd C dL_law_161 ?_
      refine v_sld C S (i + 2) dL_law_162 (by show nI i + nI 2 = _; rw [nI_add]) (by omega) (by omega) ?_
      refine v_callV C dL_law_163 lk_L_23 (c_ask (d := 5) (sc (i + 1)) (sc (i + 2)) ca (by decide)) (by decide) (CA_obj ca) rfl rfl rfl rfl (Nat.le_of_ble_eq_true rfl) ?_
      rintro r1 h1 hc
      rcases hc with ⟨c1, rfl, rfl⟩ | ⟨a, b, c1, han, e1, e2, rfl, ca2⟩
      · obtain ⟨c, rfl, sw⟩ := CA_swap ca
        refine v_aload_n C dL_law_166 rfl ?_
        refine v_aload_n C dL_law_167 rfl ?_
        refine v_iload_n C dL_law_168 rfl ?_
        refine v_iconst C (1) dL_law_169 (by decide) ?_
        refine v_iadd C dL_law_170 ?_
        refine v_sld C S (i + 1) dL_law_171 (by show nI i + nI 1 = _; rw [nI_add]) (by omega) (by omega) ?_
        refine v_aload_n C dL_law_172 rfl ?_
        refine v_iload_n C dL_law_173 rfl ?_
        refine v_iconst C (2) dL_law_174 (by decide) ?_
        refine v_iadd C dL_law_175 ?_
        refine v_sld C S (i + 2) dL_law_176 (by show nI i + nI 2 = _; rw [nI_add]) (by omega) (by omega) ?_
        refine v_callV C dL_law_177 lk_L_27 (m_ask (d := 5) (sc (i + 1)) (sc (i + 2)) hn (by decide)) (by decide) rfl rfl rfl rfl rfl (Nat.le_of_ble_eq_true rfl) ?_
        rintro r2 h2 hm
        rcases hm with ⟨m1, rfl, rfl⟩ | ⟨a2, b2, m1, g0, g1, g2, g3, rfl, rfl⟩
        · refine v_icmp_eq C 434 dL_law_180 (by decide) (fun _ => ?_) (fun z => absurd (rfl) z)
          exact next _ ⟨W, n, w, q, w', q', _, sw _, ⟨fe, pn, pd, ik, D, G, mok, hfe, hkn, hfk, rfl⟩, ag⟩
        · exact absurd m1 c1
      · obtain ⟨c, rfl, sw⟩ := CA_swap ca2
        refine v_aload_n C dL_law_166 rfl ?_
        refine v_aload_n C dL_law_167 rfl ?_
        refine v_iload_n C dL_law_168 rfl ?_
        refine v_iconst C (1) dL_law_169 (by decide) ?_
        refine v_iadd C dL_law_170 ?_
        refine v_sld C S (i + 1) dL_law_171 (by show nI i + nI 1 = _; rw [nI_add]) (by omega) (by omega) ?_
        refine v_aload_n C dL_law_172 rfl ?_
        refine v_iload_n C dL_law_173 rfl ?_
        refine v_iconst C (2) dL_law_174 (by decide) ?_
        refine v_iadd C dL_law_175 ?_
        refine v_sld C S (i + 2) dL_law_176 (by show nI i + nI 2 = _; rw [nI_add]) (by omega) (by omega) ?_
        refine v_callV C dL_law_177 lk_L_27 (m_ask (d := 5) (sc (i + 1)) (sc (i + 2)) hn (by decide)) (by decide) rfl rfl rfl rfl rfl (Nat.le_of_ble_eq_true rfl) ?_
        rintro r2 h2 hm
        rcases hm with ⟨m1, rfl, rfl⟩ | ⟨a2, b2, m1, g0, g1, g2, g3, rfl, rfl⟩
        · exact absurd c1 m1
        · refine v_icmp_eq C 434 dL_law_180 (by decide) (fun _ => ?_) (fun z => absurd (rfl) z)
          have b9 : va_up q a b a ≤ 6 := (CA_n ca2).2.2.1 a (by omega)
          rw [show va_up q a b a = b from if_pos rfl] at b9
          have e3 : a = a2 := (nI_eq (by omega) (by omega)).mp (e1.symm.trans g1)
          have e4 : b = b2 := (nI_eq (by omega) (by omega)).mp (e2.symm.trans g2)
          subst e3; subst e4
          refine next _ ⟨W, n, w, va_up q a b, w', va_up q' a b, _, sw _, ⟨fe, pn, pd, 0, D, (0, G.2), ⟨hn, mok.2.1, hW2, mok.2.2.2.1, fun k hk => ?_⟩, hfe, Or.inl rfl, Or.inl rfl, rfl⟩, fun k hk => ?_⟩
          · unfold va_up
            split
            · exact g3
            · exact mok.2.2.2.2 k hk
          · unfold va_up
            by_cases e5 : k = a
            · rw [if_pos e5, if_pos e5]; exact ⟨agw k hk, rfl⟩
            · rw [if_neg e5, if_neg e5]; exact ag k hk
    | 3, _, tk =>
      refine v_tin C 185 dL_law_32 (by rw [tk]; decide) (by rw [tk]; decide) (off := 153) (by rw [tk]; rfl) (by decide) ?_
      refine v_aload_n C dL_law_185 rfl ?_
      refine v_callV C dL_law_186 lk_L_28 (c_drop (d := 5) ca (by decide)) (by decide) (CA_obj ca) rfl rfl rfl rfl (Nat.le_of_ble_eq_true rfl) ?_
      rintro r1 h1 hc
      rcases hc with ⟨c1, rfl, rfl⟩ | ⟨m9, c1, rfl, ca2⟩
      · obtain ⟨c, rfl, sw⟩ := CA_swap ca
        refine v_aload_n C dL_law_189 rfl ?_
        refine v_callV C dL_law_190 lk_L_32 (m_drop (d := 5) hn (by decide)) (by decide) rfl rfl rfl rfl rfl (Nat.le_of_ble_eq_true rfl) ?_
        rintro r2 h2 hm
        rcases hm with ⟨m1, rfl, rfl⟩ | ⟨m8, m1, rfl, rfl⟩
        · refine v_icmp_eq C 434 dL_law_193 (by decide) (fun _ => ?_) (fun z => absurd (rfl) z)
          exact next _ ⟨W, n, w, q, w', q', _, sw _, ⟨fe, pn, pd, ik, D, G, mok, hfe, hkn, hfk, rfl⟩, ag⟩
        · exact absurd c1 (by omega)
      · obtain ⟨c, rfl, sw⟩ := CA_swap ca2
        refine v_aload_n C dL_law_189 rfl ?_
        refine v_callV C dL_law_190 lk_L_32 (m_drop (d := 5) hn (by decide)) (by decide) rfl rfl rfl rfl rfl (Nat.le_of_ble_eq_true rfl) ?_
        rintro r2 h2 hm
        rcases hm with ⟨m1, rfl, rfl⟩ | ⟨m8, m1, rfl, rfl⟩
        · exact absurd c1 (by omega)
        · have e3 : m9 = m8 := by omega
          subst e3
          refine v_icmp_eq C 434 dL_law_193 (by decide) (fun _ => ?_) (fun z => absurd (rfl) z)
          refine next _ ⟨W, m9, w, va_up q m9 0, w', q', _, sw _, ⟨fe, pn, pd, 0, D, (0, G.2), ⟨by omega, mok.2.1, hW2, fun k hk => mok.2.2.2.1 k (by omega), fun k hk => mok.2.2.2.2 k (by omega)⟩, hfe, Or.inl rfl, Or.inl rfl, rfl⟩, fun k hk => ?_⟩
          unfold va_up
          rw [if_neg (by omega)]
          exact ag k (by omega)
    | 4, _, tk =>
      refine v_tin C 198 dL_law_32 (by rw [tk]; decide) (by rw [tk]; decide) (off := 166) (by rw [tk]; rfl) (by decide) ?_
      refine v_aload_n C dL_law_198 rfl ?_
      refine v_aload_n C dL_law_199 rfl ?_
      refine v_iload_n C dL_law_200 rfl ?_
      refine v_iconst C (1) dL_law_201 (by decide) ?_
      refine v_iadd C dL_law_202 ?_
      refine v_sld C S (i + 1) dL_law_203 (by show nI i + nI 1 = _; rw [nI_add]) (by omega) (by omega) ?_
      refine v_callV C dL_law_204 lk_L_33 (c_of (d := 5) (sc (i + 1)) ca) (by decide) (CA_obj ca) rfl rfl rfl rfl (Nat.le_of_ble_eq_true rfl) ?_
      rintro r1 h1 hc
      obtain ⟨rfl, rfl⟩ := hc
      obtain ⟨c, rfl, sw⟩ := CA_swap ca
      refine v_aload_n C dL_law_207 rfl ?_
      refine v_aload_n C dL_law_208 rfl ?_
      refine v_iload_n C dL_law_209 rfl ?_
      refine v_iconst C (1) dL_law_210 (by decide) ?_
      refine v_iadd C dL_law_211 ?_
      refine v_sld C S (i + 1) dL_law_212 (by show nI i + nI 1 = _; rw [nI_add]) (by omega) (by omega) ?_
      refine v_callV C dL_law_213 lk_L_37 (m_of (d := 5) (sc (i + 1))) (by decide) rfl rfl rfl rfl rfl (Nat.le_of_ble_eq_true rfl) ?_
      rintro r2 h2 hm
      obtain ⟨rfl, rfl⟩ := hm
      refine v_icmp_eq C 434 dL_law_216 (by decide) (fun _ => ?_) (fun z => absurd (rfl) z)
      exact next _ ⟨W, n, w, q, w', q', _, sw _, ⟨fe, pn, pd, ik, D, G, mok, hfe, hkn, hfk, rfl⟩, ag⟩
    | 5, _, tk =>
      refine v_tin C 221 dL_law_32 (by rw [tk]; decide) (by rw [tk]; decide) (off := 189) (by rw [tk]; rfl) (by decide) ?_
      refine v_aload_n C dL_law_221 rfl ?_
      refine v_aload_n C dL_law_222 rfl ?_
      refine v_iload_n C dL_law_223 rfl ?_
      refine v_iconst C (1) dL_law_224 (by decide) ?_
      refine v_iadd C dL_law_225 ?_
      refine v_sld C S (i + 1) dL_law_226 (by show nI i + nI 1 = _; rw [nI_add]) (by omega) (by omega) ?_
      refine v_aload_n C dL_law_227 rfl ?_
      refine v_iload_n C dL_law_228 rfl ?_
      refine v_iconst C (2) dL_law_229 (by decide) ?_
      refine v_iadd C dL_law_230 ?_
      refine v_sld C S (i + 2) dL_law_231 (by show nI i + nI 2 = _; rw [nI_add]) (by omega) (by omega) ?_
      refine v_callV C dL_law_232 lk_L_38 (c_ofKind (d := 5) (sc (i + 1)) (sc (i + 2)) ca (by decide)) (by decide) (CA_obj ca) rfl rfl rfl rfl (Nat.le_of_ble_eq_true rfl) ?_
      rintro r1 h1 hc
      obtain ⟨rfl, hc⟩ := hc
      rcases hc with ⟨c1, rfl⟩ | ⟨a, c1, e1, rfl⟩
      · obtain ⟨c, rfl, sw⟩ := CA_swap ca
        refine v_aload_n C dL_law_235 rfl ?_
        refine v_aload_n C dL_law_236 rfl ?_
        refine v_iload_n C dL_law_237 rfl ?_
        refine v_iconst C (1) dL_law_238 (by decide) ?_
        refine v_iadd C dL_law_239 ?_
        refine v_sld C S (i + 1) dL_law_240 (by show nI i + nI 1 = _; rw [nI_add]) (by omega) (by omega) ?_
        refine v_aload_n C dL_law_241 rfl ?_
        refine v_iload_n C dL_law_242 rfl ?_
        refine v_iconst C (2) dL_law_243 (by decide) ?_
        refine v_iadd C dL_law_244 ?_
        refine v_sld C S (i + 2) dL_law_245 (by show nI i + nI 2 = _; rw [nI_add]) (by omega) (by omega) ?_
        refine v_callV C dL_law_246 lk_L_41 (m_ofKind (d := 5) (sc (i + 1)) (sc (i + 2)) hn) (by decide) rfl rfl rfl rfl rfl (Nat.le_of_ble_eq_true rfl) ?_
        rintro r2 h2 hm
        obtain ⟨rfl, hm⟩ := hm
        rcases hm with ⟨m1, rfl⟩ | ⟨a2, m1, e2, rfl⟩
        · refine v_icmp_eq C 434 dL_law_249 (by decide) (fun _ => ?_) (fun z => absurd (rfl) z)
          exact next _ ⟨W, n, w, q, w', q', _, sw _, ⟨fe, pn, pd, ik, D, G, mok, hfe, hkn, hfk, rfl⟩, ag⟩
        · exact absurd ⟨by rw [e2]; exact nI_pos (by omega), by rw [e2]; exact nI_lt m1 (by omega)⟩ c1
      · obtain ⟨c, rfl, sw⟩ := CA_swap ca
        refine v_aload_n C dL_law_235 rfl ?_
        refine v_aload_n C dL_law_236 rfl ?_
        refine v_iload_n C dL_law_237 rfl ?_
        refine v_iconst C (1) dL_law_238 (by decide) ?_
        refine v_iadd C dL_law_239 ?_
        refine v_sld C S (i + 1) dL_law_240 (by show nI i + nI 1 = _; rw [nI_add]) (by omega) (by omega) ?_
        refine v_aload_n C dL_law_241 rfl ?_
        refine v_iload_n C dL_law_242 rfl ?_
        refine v_iconst C (2) dL_law_243 (by decide) ?_
        refine v_iadd C dL_law_244 ?_
        refine v_sld C S (i + 2) dL_law_245 (by show nI i + nI 2 = _; rw [nI_add]) (by omega) (by omega) ?_
        refine v_callV C dL_law_246 lk_L_41 (m_ofKind (d := 5) (sc (i + 1)) (sc (i + 2)) hn) (by decide) rfl rfl rfl rfl rfl (Nat.le_of_ble_eq_true rfl) ?_
        rintro r2 h2 hm
        obtain ⟨rfl, hm⟩ := hm
        rcases hm with ⟨m1, rfl⟩ | ⟨a2, m1, e2, rfl⟩
        · exact absurd ⟨by rw [e1]; exact nI_pos (by omega), by rw [e1]; exact nI_lt c1 (by omega)⟩ m1
        · have e3 : a = a2 := (nI_eq (by omega) (by omega)).mp (e1.symm.trans e2)
          subst e3
          refine v_icmp_eq C 434 dL_law_249 (by decide) (fun _ => ?_) (fun z => absurd (by rw [agw a c1, agq a c1]) z)
          exact next _ ⟨W, n, w, q, w', q', _, sw _, ⟨fe, pn, pd, ik, D, G, mok, hfe, hkn, hfk, rfl⟩, ag⟩
    | 6, _, tk =>
      refine v_tin C 254 dL_law_32 (by rw [tk]; decide) (by rw [tk]; decide) (off := 222) (by rw [tk]; rfl) (by decide) ?_
      refine v_aload_n C dL_law_254 rfl ?_
      refine v_callV C dL_law_255 lk_L_42 (c_rolls (d := 5) ca (by decide)) (by decide) (CA_obj ca) rfl rfl rfl rfl (Nat.le_of_ble_eq_true rfl) ?_
      rintro r1 h1 hc
      obtain ⟨m9, hm9, hF, rfl, rfl⟩ := hc
      obtain ⟨c, rfl, sw⟩ := CA_swap ca
      refine v_aload_n C dL_law_258 rfl ?_
      refine v_callV C dL_law_259 lk_L_45 (m_rolls (d := 5) mok hfe hkn (by decide)) (by decide) rfl rfl rfl rfl rfl (Nat.le_of_ble_eq_true rfl) ?_
      rintro r2 h2 hm
      obtain ⟨fe2, pn2, pd2, hfe2, hkn2, rfl, rfl⟩ := hm
      have e3 : m9 = pd2 := isF_uniq (isF_w eww hq.2 eqq hF) hkn2.1
      refine v_icmp_eq C 434 dL_law_262 (by decide) (fun _ => ?_) (fun z => absurd (congrArg nI e3) z)
      exact next _ ⟨W, n, w, q, w', q', _, sw _, ⟨fe2, pn2, pd2, 1, D, G, mok, hfe2, Or.inr ⟨rfl, hkn2⟩, hfk, rfl⟩, ag⟩
    | 7, _, tk =>
      refine v_tin C 267 dL_law_32 (by rw [tk]; decide) (by rw [tk]; decide) (off := 235) (by rw [tk]; rfl) (by decide) ?_
      refine v_aload_n C dL_law_267 rfl ?_
      refine v_aload_n C dL_law_268 rfl ?_
      refine v_iload_n C dL_law_269 rfl ?_
      refine v_iconst C (1) dL_law_270 (by decide) ?_
      refine v_iadd C dL_law_271 ?_
      refine v_sld C S (i + 1) dL_law_272 (by show nI i + nI 1 = _; rw [nI_add]) (by omega) (by omega) ?_
      refine v_aload_n C dL_law_273 rfl ?_
      refine v_iload_n C dL_law_274 rfl ?_
      refine v_iconst C (2) dL_law_275 (by decide) ?_
      refine v_iadd C dL_law_276 ?_
      refine v_sld C S (i + 2) dL_law_277 (by show nI i + nI 2 = _; rw [nI_add]) (by omega) (by omega) ?_
      refine v_callV C dL_law_278 lk_L_46 (c_cut (d := 5) (sc (i + 1)) (sc (i + 2)) ca (by decide)) (by decide) (CA_obj ca) rfl rfl rfl rfl (Nat.le_of_ble_eq_true rfl) ?_
      rintro r1 h1 hc
      obtain ⟨ca2, m9, cu9, hF, hc⟩ := hc
      rcases hc with ⟨c1, rfl⟩ | ⟨i9, k9, c1, c2, e1, e2, hP, rfl⟩
      · obtain ⟨c, rfl, sw⟩ := CA_swap ca2
        refine v_aload_n C dL_law_281 rfl ?_
        refine v_aload_n C dL_law_282 rfl ?_
        refine v_iload_n C dL_law_283 rfl ?_
        refine v_iconst C (1) dL_law_284 (by decide) ?_
        refine v_iadd C dL_law_285 ?_
        refine v_sld C S (i + 1) dL_law_286 (by show nI i + nI 1 = _; rw [nI_add]) (by omega) (by omega) ?_
        refine v_aload_n C dL_law_287 rfl ?_
        refine v_iload_n C dL_law_288 rfl ?_
        refine v_iconst C (2) dL_law_289 (by decide) ?_
        refine v_iadd C dL_law_290 ?_
        refine v_sld C S (i + 2) dL_law_291 (by show nI i + nI 2 = _; rw [nI_add]) (by omega) (by omega) ?_
        refine v_callV C dL_law_292 lk_L_49 (m_cut (d := 5) (sc (i + 1)) (sc (i + 2)) mok hfe hkn (by decide)) (by decide) rfl rfl rfl rfl rfl (Nat.le_of_ble_eq_true rfl) ?_
        rintro r2 h2 hm
        obtain ⟨fe2, pn2, pd2, hfe2, hkn2, rfl, hm⟩ := hm
        have e3 : m9 = pd2 := isF_uniq (isF_w eww hq.2 eqq hF) hkn2.1
        subst e3
        have h24 := hkn2.2.1
        rcases hm with ⟨m1, rfl⟩ | ⟨i8, k8, m1, m2, g1, g2, rfl⟩
        · refine v_icmp_eq C 434 dL_law_295 (by decide) (fun _ => ?_) (fun z => absurd (rfl) z)
          exact next _ ⟨W, n, w, q, w', q', _, sw _, ⟨fe2, pn2, m9, 1, D, G, mok, hfe2, Or.inr ⟨rfl, hkn2⟩, hfk, rfl⟩, ag⟩
        · exact absurd ⟨⟨by rw [g2]; exact nI_pos (by omega), by rw [g2]; exact nI_lt m2 (by omega)⟩, by rw [g1]; exact nI_pos (by omega), by rw [g1]; exact nI_lt m1 (by omega)⟩ c1
      · obtain ⟨c, rfl, sw⟩ := CA_swap ca2
        refine v_aload_n C dL_law_281 rfl ?_
        refine v_aload_n C dL_law_282 rfl ?_
        refine v_iload_n C dL_law_283 rfl ?_
        refine v_iconst C (1) dL_law_284 (by decide) ?_
        refine v_iadd C dL_law_285 ?_
        refine v_sld C S (i + 1) dL_law_286 (by show nI i + nI 1 = _; rw [nI_add]) (by omega) (by omega) ?_
        refine v_aload_n C dL_law_287 rfl ?_
        refine v_iload_n C dL_law_288 rfl ?_
        refine v_iconst C (2) dL_law_289 (by decide) ?_
        refine v_iadd C dL_law_290 ?_
        refine v_sld C S (i + 2) dL_law_291 (by show nI i + nI 2 = _; rw [nI_add]) (by omega) (by omega) ?_
        refine v_callV C dL_law_292 lk_L_49 (m_cut (d := 5) (sc (i + 1)) (sc (i + 2)) mok hfe hkn (by decide)) (by decide) rfl rfl rfl rfl rfl (Nat.le_of_ble_eq_true rfl) ?_
        rintro r2 h2 hm
        obtain ⟨fe2, pn2, pd2, hfe2, hkn2, rfl, hm⟩ := hm
        have e3 : m9 = pd2 := isF_uniq (isF_w eww hq.2 eqq hF) hkn2.1
        subst e3
        have h24 := hkn2.2.1
        rcases hm with ⟨m1, rfl⟩ | ⟨i8, k8, m1, m2, g1, g2, rfl⟩
        · exact absurd ⟨⟨by rw [e2]; exact nI_pos (by omega), by rw [e2]; exact nI_lt c2 (by omega)⟩, by rw [e1]; exact nI_pos (by omega), by rw [e1]; exact nI_lt c1 (by omega)⟩ m1
        · have e4 : i9 = i8 := (nI_eq (by omega) (by omega)).mp (e1.symm.trans g1)
          have e5 : k9 = k8 := (nI_eq (by omega) (by omega)).mp (e2.symm.trans g2)
          subst e4; subst e5
          refine v_icmp_eq C 434 dL_law_295 (by decide) (fun _ => ?_) (fun z => absurd (congrArg nI (plan_uniq eww hq.2 eqq hP hkn2.2.2.1 i9 k9 c1 (by omega))) z)
          exact next _ ⟨W, n, w, q, w', q', _, sw _, ⟨fe2, pn2, m9, 1, D, G, mok, hfe2, Or.inr ⟨rfl, hkn2⟩, hfk, rfl⟩, ag⟩
    | 8, _, tk =>
      refine v_tin C 300 dL_law_32 (by rw [tk]; decide) (by rw [tk]; decide) (off := 268) (by rw [tk]; rfl) (by decide) ?_
      refine v_aload_n C dL_law_300 rfl ?_
      refine v_aload_n C dL_law_301 rfl ?_
      refine v_iload_n C dL_law_302 rfl ?_
      refine v_iconst C (1) dL_law_303 (by decide) ?_
      refine v_iadd C dL_law_304 ?_
      refine v_sld C S (i + 1) dL_law_305 (by show nI i + nI 1 = _; rw [nI_add]) (by omega) (by omega) ?_
      refine v_aload_n C dL_law_306 rfl ?_
      refine v_iload_n C dL_law_307 rfl ?_
      refine v_iconst C (2) dL_law_308 (by decide) ?_
      refine v_iadd C dL_law_309 ?_
      refine v_sld C S (i + 2) dL_law_310 (by show nI i + nI 2 = _; rw [nI_add]) (by omega) (by omega) ?_
      refine v_aload_n C dL_law_311 rfl ?_
      refine v_iload_n C dL_law_312 rfl ?_
      refine v_iconst C (3) dL_law_313 (by decide) ?_
      refine v_iadd C dL_law_314 ?_
      refine v_sld C S (i + 3) dL_law_315 (by show nI i + nI 3 = _; rw [nI_add]) (by omega) (by omega) ?_
      refine v_aload_n C dL_law_316 rfl ?_
      refine v_iload_n C dL_law_317 rfl ?_
      refine v_iconst C (4) dL_law_318 (by decide) ?_
      refine v_iadd C dL_law_319 ?_
      refine v_sld C S (i + 4) dL_law_320 (by show nI i + nI 4 = _; rw [nI_add]) (by omega) (by omega) ?_
      refine v_callV C dL_law_321 lk_L_50 (c_with (d := 5) (sc (i + 1)) (sc (i + 2)) (sc (i + 3)) (sc (i + 4)) ca (by decide)) (by decide) (CA_obj ca) rfl rfl rfl rfl (Nat.le_of_ble_eq_true rfl) ?_
      rintro r1 h1 hc
      obtain ⟨rfl, hc⟩ := hc
      have wq : ∀ a0 a1 a2 a3 : Nat, (∀ k, k < 4 → v4 a0 a1 a2 a3 k ≤ q k) → wt w (v4 a0 a1 a2 a3) = wt (qn n w') (v4 a0 a1 a2 a3) := fun a0 a1 a2 a3 hle => wt_w eww (fun k a b => by have := hle k b; have := hq.2 k a b; omega)
      rcases hc with ⟨c1, rfl⟩ | ⟨a0, a1, a2, a3, m9, e0, e1, e2, e3, hle, hwt, hF, h24, rfl⟩
      · obtain ⟨c, rfl, sw⟩ := CA_swap ca
        refine v_aload_n C dL_law_324 rfl ?_
        refine v_aload_n C dL_law_325 rfl ?_
        refine v_iload_n C dL_law_326 rfl ?_
        refine v_iconst C (1) dL_law_327 (by decide) ?_
        refine v_iadd C dL_law_328 ?_
        refine v_sld C S (i + 1) dL_law_329 (by show nI i + nI 1 = _; rw [nI_add]) (by omega) (by omega) ?_
        refine v_aload_n C dL_law_330 rfl ?_
        refine v_iload_n C dL_law_331 rfl ?_
        refine v_iconst C (2) dL_law_332 (by decide) ?_
        refine v_iadd C dL_law_333 ?_
        refine v_sld C S (i + 2) dL_law_334 (by show nI i + nI 2 = _; rw [nI_add]) (by omega) (by omega) ?_
        refine v_aload_n C dL_law_335 rfl ?_
        refine v_iload_n C dL_law_336 rfl ?_
        refine v_iconst C (3) dL_law_337 (by decide) ?_
        refine v_iadd C dL_law_338 ?_
        refine v_sld C S (i + 3) dL_law_339 (by show nI i + nI 3 = _; rw [nI_add]) (by omega) (by omega) ?_
        refine v_aload_n C dL_law_340 rfl ?_
        refine v_iload_n C dL_law_341 rfl ?_
        refine v_iconst C (4) dL_law_342 (by decide) ?_
        refine v_iadd C dL_law_343 ?_
        refine v_sld C S (i + 4) dL_law_344 (by show nI i + nI 4 = _; rw [nI_add]) (by omega) (by omega) ?_
        refine v_callV C dL_law_345 lk_L_54 (m_with (d := 5) (sc (i + 1)) (sc (i + 2)) (sc (i + 3)) (sc (i + 4)) mok hfe hkn (by decide)) (by decide) rfl rfl rfl rfl rfl (Nat.le_of_ble_eq_true rfl) ?_
        rintro r2 h2 hm
        rcases hm with ⟨m1, rfl, rfl⟩ | ⟨b0, b1, b2, b3, m8, fe2, pn2, pd2, g0, g1, g2, g3, hle2, hwt2, hF2, rfl, hfe2, hkn2, rfl⟩
        · refine v_icmp_eq C 434 dL_law_348 (by decide) (fun _ => ?_) (fun z => absurd (rfl) z)
          exact next _ ⟨W, n, w, q, w', q', _, sw _, ⟨fe, pn, pd, ik, D, G, mok, hfe, hkn, hfk, rfl⟩, ag⟩
        · have hle3 : ∀ k, k < 4 → v4 b0 b1 b2 b3 k ≤ q k := fun k hk => by rw [eqq k hk]; exact hle2 k hk
          exact absurd ⟨b0, b1, b2, b3, g0, g1, g2, g3, hle3 0 (by omega), hle3 1 (by omega), hle3 2 (by omega), hle3 3 (by omega), by rw [← wq b0 b1 b2 b3 hle3] at hwt2; exact hwt2⟩ c1
      · obtain ⟨c, rfl, sw⟩ := CA_swap ca
        refine v_aload_n C dL_law_324 rfl ?_
        refine v_aload_n C dL_law_325 rfl ?_
        refine v_iload_n C dL_law_326 rfl ?_
        refine v_iconst C (1) dL_law_327 (by decide) ?_
        refine v_iadd C dL_law_328 ?_
        refine v_sld C S (i + 1) dL_law_329 (by show nI i + nI 1 = _; rw [nI_add]) (by omega) (by omega) ?_
        refine v_aload_n C dL_law_330 rfl ?_
        refine v_iload_n C dL_law_331 rfl ?_
        refine v_iconst C (2) dL_law_332 (by decide) ?_
        refine v_iadd C dL_law_333 ?_
        refine v_sld C S (i + 2) dL_law_334 (by show nI i + nI 2 = _; rw [nI_add]) (by omega) (by omega) ?_
        refine v_aload_n C dL_law_335 rfl ?_
        refine v_iload_n C dL_law_336 rfl ?_
        refine v_iconst C (3) dL_law_337 (by decide) ?_
        refine v_iadd C dL_law_338 ?_
        refine v_sld C S (i + 3) dL_law_339 (by show nI i + nI 3 = _; rw [nI_add]) (by omega) (by omega) ?_
        refine v_aload_n C dL_law_340 rfl ?_
        refine v_iload_n C dL_law_341 rfl ?_
        refine v_iconst C (4) dL_law_342 (by decide) ?_
        refine v_iadd C dL_law_343 ?_
        refine v_sld C S (i + 4) dL_law_344 (by show nI i + nI 4 = _; rw [nI_add]) (by omega) (by omega) ?_
        refine v_callV C dL_law_345 lk_L_54 (m_with (d := 5) (sc (i + 1)) (sc (i + 2)) (sc (i + 3)) (sc (i + 4)) mok hfe hkn (by decide)) (by decide) rfl rfl rfl rfl rfl (Nat.le_of_ble_eq_true rfl) ?_
        rintro r2 h2 hm
        rcases hm with ⟨m1, rfl, rfl⟩ | ⟨b0, b1, b2, b3, m8, fe2, pn2, pd2, g0, g1, g2, g3, hle2, hwt2, hF2, rfl, hfe2, hkn2, rfl⟩
        · have hle3 : ∀ k, k < 4 → v4 a0 a1 a2 a3 k ≤ qn n q' k := fun k hk => by rw [← eqq k hk]; exact hle k hk
          exact absurd ⟨a0, a1, a2, a3, e0, e1, e2, e3, hle3 0 (by omega), hle3 1 (by omega), hle3 2 (by omega), hle3 3 (by omega), by rw [wq a0 a1 a2 a3 hle] at hwt; exact hwt⟩ m1
        · have s0 : a0 ≤ q 0 := hle 0 (by omega)
          have s1 : a1 ≤ q 1 := hle 1 (by omega)
          have s2 : a2 ≤ q 2 := hle 2 (by omega)
          have s3 : a3 ≤ q 3 := hle 3 (by omega)
          have t0 : b0 ≤ qn n q' 0 := hle2 0 (by omega)
          have t1 : b1 ≤ qn n q' 1 := hle2 1 (by omega)
          have t2 : b2 ≤ qn n q' 2 := hle2 2 (by omega)
          have t3 : b3 ≤ qn n q' 3 := hle2 3 (by omega)
          rw [← eqq 0 (by omega)] at t0
          rw [← eqq 1 (by omega)] at t1
          rw [← eqq 2 (by omega)] at t2
          rw [← eqq 3 (by omega)] at t3
          have u0 := hq.1 0 (by omega)
          have u1 := hq.1 1 (by omega)
          have u2 := hq.1 2 (by omega)
          have u3 := hq.1 3 (by omega)
          have k0 := (nI_eq (a := a0) (b := b0) (by omega) (by omega)).mp (e0.symm.trans g0)
          have k1 := (nI_eq (a := a1) (b := b1) (by omega) (by omega)).mp (e1.symm.trans g1)
          have k2 := (nI_eq (a := a2) (b := b2) (by omega) (by omega)).mp (e2.symm.trans g2)
          have k3 := (nI_eq (a := a3) (b := b3) (by omega) (by omega)).mp (e3.symm.trans g3)
          subst k0; subst k1; subst k2; subst k3
          have e9 : m9 = m8 := isF_uniq (isF_w eww (cnt_sub hq).2 (fun k hk => by show q k - _ = qn n q' k - _; rw [eqq k hk]) hF) hF2
          refine v_icmp_eq C 434 dL_law_348 (by decide) (fun _ => ?_) (fun z => absurd (by rw [e9]) z)
          exact next _ ⟨W, n, w, q, w', q', _, sw _, ⟨fe2, pn2, pd2, 1, D, G, mok, hfe2, Or.inr ⟨rfl, hkn2⟩, hfk, rfl⟩, ag⟩
    | 9, _, tk =>
      refine v_tin C 353 dL_law_32 (by rw [tk]; decide) (by rw [tk]; decide) (off := 321) (by rw [tk]; rfl) (by decide) ?_
      refine v_aload_n C dL_law_353 rfl ?_
      refine v_callV C dL_law_354 lk_L_55 (fc W n w q h _ ca |>.1) (by decide) (CA_obj ca) rfl rfl rfl rfl (Nat.le_of_ble_eq_true rfl) ?_
      rintro r1 h1 hc
      obtain ⟨ca2, T, B, hT, rfl⟩ := hc
      obtain ⟨c, rfl, sw⟩ := CA_swap ca2
      refine v_aload_n C dL_law_357 rfl ?_
      refine v_callV C dL_law_358 lk_L_59 ((fm c W n w' q' _ D G mok hfk).1) (by decide) rfl rfl rfl rfl rfl (Nat.le_of_ble_eq_true rfl) ?_
      rintro r2 h2 hm
      obtain ⟨D2, G2, hfk2, rfl, T2, B2, hT2, rfl⟩ := hm
      have e9 := isFl_uniq (isFl_w agw (fun k hk => by rw [agq k hk]; exact (if_pos hk).symm) hT) hT2
      refine v_lcmp C dL_law_361 ?_
      refine v_if_eq C 434 dL_law_362 (by decide) (fun _ => ?_) (fun z => absurd ((lg_cmp_eq _ _).mpr (by rw [e9.1])) z)
      exact next _ ⟨W, n, w, q, w', q', _, sw _, ⟨fe, pn, pd, ik, D2, G2, mok, hfe, hkn, hfk2, rfl⟩, ag⟩
    | 10, _, tk =>
      refine v_tin C 367 dL_law_32 (by rw [tk]; decide) (by rw [tk]; decide) (off := 335) (by rw [tk]; rfl) (by decide) ?_
      refine v_aload_n C dL_law_367 rfl ?_
      refine v_callV C dL_law_368 lk_L_60 (fc W n w q h _ ca |>.2) (by decide) (CA_obj ca) rfl rfl rfl rfl (Nat.le_of_ble_eq_true rfl) ?_
      rintro r1 h1 hc
      obtain ⟨ca2, T, B, hT, rfl⟩ := hc
      obtain ⟨c, rfl, sw⟩ := CA_swap ca2
      refine v_aload_n C dL_law_371 rfl ?_
      refine v_callV C dL_law_372 lk_L_63 ((fm c W n w' q' _ D G mok hfk).2) (by decide) rfl rfl rfl rfl rfl (Nat.le_of_ble_eq_true rfl) ?_
      rintro r2 h2 hm
      obtain ⟨D2, G2, hfk2, rfl, T2, B2, hT2, rfl⟩ := hm
      have e9 := isFl_uniq (isFl_w agw (fun k hk => by rw [agq k hk]; exact (if_pos hk).symm) hT) hT2
      refine v_lcmp C dL_law_375 ?_
      refine v_if_eq C 434 dL_law_376 (by decide) (fun _ => ?_) (fun z => absurd ((lg_cmp_eq _ _).mpr (by rw [e9.2])) z)
      exact next _ ⟨W, n, w, q, w', q', _, sw _, ⟨fe, pn, pd, ik, D2, G2, mok, hfe, hkn, hfk2, rfl⟩, ag⟩
    | 11, _, tk =>
      refine v_tin C 381 dL_law_32 (by rw [tk]; decide) (by rw [tk]; decide) (off := 349) (by rw [tk]; rfl) (by decide) ?_
      refine v_aload_n C dL_law_381 rfl ?_
      refine v_aload_n C dL_law_382 rfl ?_
      refine v_iload_n C dL_law_383 rfl ?_
      refine v_iconst C (1) dL_law_384 (by decide) ?_
      refine v_iadd C dL_law_385 ?_
      refine v_sld C S (i + 1) dL_law_386 (by show nI i + nI 1 = _; rw [nI_add]) (by omega) (by omega) ?_
      refine v_aload_n C dL_law_387 rfl ?_
      refine v_iload_n C dL_law_388 rfl ?_
      refine v_iconst C (2) dL_law_389 (by decide) ?_
      refine v_iadd C dL_law_390 ?_
      refine v_sld C S (i + 2) dL_law_391 (by show nI i + nI 2 = _; rw [nI_add]) (by omega) (by omega) ?_
      refine v_aload_n C dL_law_392 rfl ?_
      refine v_iload_n C dL_law_393 rfl ?_
      refine v_iconst C (3) dL_law_394 (by decide) ?_
      refine v_iadd C dL_law_395 ?_
      refine v_sld C S (i + 3) dL_law_396 (by show nI i + nI 3 = _; rw [nI_add]) (by omega) (by omega) ?_
      refine v_aload_n C dL_law_397 rfl ?_
      refine v_iload_n C dL_law_398 rfl ?_
      refine v_iconst C (4) dL_law_399 (by decide) ?_
      refine v_iadd C dL_law_400 ?_
      refine v_sld C S (i + 4) dL_law_401 (by show nI i + nI 4 = _; rw [nI_add]) (by omega) (by omega) ?_
      refine v_callV C dL_law_402 lk_L_64 (c_price (d := 5) (sc (i + 1)) (sc (i + 2)) (sc (i + 3)) (sc (i + 4)) ca (by decide)) (by decide) (CA_obj ca) rfl rfl rfl rfl (Nat.le_of_ble_eq_true rfl) ?_
      rintro r1 h1 hc
      rcases hc with ⟨c1, rfl, rfl⟩ | ⟨z1, c1, hz1, rfl, ca2⟩
      · obtain ⟨c, rfl, sw⟩ := CA_swap ca
        refine v_aload_n C dL_law_405 rfl ?_
        refine v_aload_n C dL_law_406 rfl ?_
        refine v_iload_n C dL_law_407 rfl ?_
        refine v_iconst C (1) dL_law_408 (by decide) ?_
        refine v_iadd C dL_law_409 ?_
        refine v_sld C S (i + 1) dL_law_410 (by show nI i + nI 1 = _; rw [nI_add]) (by omega) (by omega) ?_
        refine v_aload_n C dL_law_411 rfl ?_
        refine v_iload_n C dL_law_412 rfl ?_
        refine v_iconst C (2) dL_law_413 (by decide) ?_
        refine v_iadd C dL_law_414 ?_
        refine v_sld C S (i + 2) dL_law_415 (by show nI i + nI 2 = _; rw [nI_add]) (by omega) (by omega) ?_
        refine v_aload_n C dL_law_416 rfl ?_
        refine v_iload_n C dL_law_417 rfl ?_
        refine v_iconst C (3) dL_law_418 (by decide) ?_
        refine v_iadd C dL_law_419 ?_
        refine v_sld C S (i + 3) dL_law_420 (by show nI i + nI 3 = _; rw [nI_add]) (by omega) (by omega) ?_
        refine v_aload_n C dL_law_421 rfl ?_
        refine v_iload_n C dL_law_422 rfl ?_
        refine v_iconst C (4) dL_law_423 (by decide) ?_
        refine v_iadd C dL_law_424 ?_
        refine v_sld C S (i + 4) dL_law_425 (by show nI i + nI 4 = _; rw [nI_add]) (by omega) (by omega) ?_
        refine v_callV C dL_law_426 lk_L_67 (m_price (d := 5) (sc (i + 1)) (sc (i + 2)) (sc (i + 3)) (sc (i + 4)) mok (by decide)) (by decide) rfl rfl rfl rfl rfl (Nat.le_of_ble_eq_true rfl) ?_
        rintro r2 h2 hm
        rcases hm with ⟨m1, rfl, rfl⟩ | ⟨z2, D2, m1, hz2, rfl, rfl⟩
        · refine v_icmp_eq C 434 dL_law_429 (by decide) (fun _ => ?_) (fun z => absurd (rfl) z)
          exact next _ ⟨W, n, w, q, w', q', _, sw _, ⟨fe, pn, pd, ik, D, G, mok, hfe, hkn, hfk, rfl⟩, ag⟩
        · exact absurd m1 c1
      · obtain ⟨c, rfl, sw⟩ := CA_swap ca2
        refine v_aload_n C dL_law_405 rfl ?_
        refine v_aload_n C dL_law_406 rfl ?_
        refine v_iload_n C dL_law_407 rfl ?_
        refine v_iconst C (1) dL_law_408 (by decide) ?_
        refine v_iadd C dL_law_409 ?_
        refine v_sld C S (i + 1) dL_law_410 (by show nI i + nI 1 = _; rw [nI_add]) (by omega) (by omega) ?_
        refine v_aload_n C dL_law_411 rfl ?_
        refine v_iload_n C dL_law_412 rfl ?_
        refine v_iconst C (2) dL_law_413 (by decide) ?_
        refine v_iadd C dL_law_414 ?_
        refine v_sld C S (i + 2) dL_law_415 (by show nI i + nI 2 = _; rw [nI_add]) (by omega) (by omega) ?_
        refine v_aload_n C dL_law_416 rfl ?_
        refine v_iload_n C dL_law_417 rfl ?_
        refine v_iconst C (3) dL_law_418 (by decide) ?_
        refine v_iadd C dL_law_419 ?_
        refine v_sld C S (i + 3) dL_law_420 (by show nI i + nI 3 = _; rw [nI_add]) (by omega) (by omega) ?_
        refine v_aload_n C dL_law_421 rfl ?_
        refine v_iload_n C dL_law_422 rfl ?_
        refine v_iconst C (4) dL_law_423 (by decide) ?_
        refine v_iadd C dL_law_424 ?_
        refine v_sld C S (i + 4) dL_law_425 (by show nI i + nI 4 = _; rw [nI_add]) (by omega) (by omega) ?_
        refine v_callV C dL_law_426 lk_L_67 (m_price (d := 5) (sc (i + 1)) (sc (i + 2)) (sc (i + 3)) (sc (i + 4)) mok (by decide)) (by decide) rfl rfl rfl rfl rfl (Nat.le_of_ble_eq_true rfl) ?_
        rintro r2 h2 hm
        rcases hm with ⟨m1, rfl, rfl⟩ | ⟨z2, D2, m1, hz2, rfl, rfl⟩
        · exact absurd c1 m1
        · have e9 := isMx_uniq (isMx_w agw hz1) hz2
          refine v_icmp_eq C 434 dL_law_429 (by decide) (fun _ => ?_) (fun z => absurd (by rw [e9]) z)
          exact next _ ⟨W, n, w, q, w', q', _, sw _, ⟨fe, pn, pd, ik, D2, G, mok, hfe, hkn, hfk, rfl⟩, ag⟩
    | k + 12, big, _ => exact absurd (by omega) big
end LAWL
