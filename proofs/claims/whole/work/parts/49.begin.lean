/-! the law from its entry to its loop, over the rule for 'new long[4][5]' -/
def LSt (X0 X : MX) (dc ds : Nat) : Prop := Cx RL cL_law 4 (some .boolean) 6 X0 ∧ (xcl X0 + 600000 ≤ (xR X0).cells ∧ xsl X0 + 7302250 ≤ (xR X0).slots) ∧ NA (xs X0) ∧ Gr X0 X dc ds 0
section LST
variable {X0 X : MX} {dc ds : Nat}
theorem ls_step (S : LSt X0 X dc ds) {X' : MX} {a b m : Nat} (g : Gr X X' a b m) : LSt X0 X' (dc + a) (ds + b) := ⟨S.1, S.2.1, S.2.2.1, S.2.2.2.trans g (Nat.zero_le _)⟩
theorem ls_cx (S : LSt X0 X dc ds) (h1 : dc ≤ 600000) (h2 : ds ≤ 7302250) : Cx RL cL_law 4 (some .boolean) 6 X := cx_gr S.1 S.2.2.2 ⟨Nat.le_trans (Nat.add_le_add_left h1 _) S.2.1.1, Nat.le_trans (Nat.add_le_add_left h2 _) S.2.1.2⟩
theorem ls_room (S : LSt X0 X dc ds) {a b : Nat} (h1 : dc + a ≤ 600000) (h2 : ds + b ≤ 7302250) : xcl X + a ≤ (xR X).cells ∧ xsl X + b ≤ (xR X).slots := by
  obtain ⟨C, ⟨r1, r2⟩, _, as', g, rfl⟩ := S
  constructor
  · show xcl X0 + dc + a ≤ (xR X0).cells
    omega
  · show xsl X0 + ds + b ≤ (xR X0).slots
    omega
theorem ls_na (S : LSt X0 X dc ds) : NA (xs X) := by
  obtain ⟨C, _, ha, as', g, rfl⟩ := S
  exact ha
theorem ls_sx {L : Nat} {sc : Nat → Int32} (S : LSt X0 X dc ds) (h : SX L sc X0) : SX L sc X := by
  obtain ⟨C, _, ha, as', g, rfl⟩ := S
  have e : as' 1001 = xas X0 1001 := g 1001 (Or.inr (by decide))
  show va_X (as' 1001) L sc (xs X0) (xs X0).heap ∧ as' 1001 < (xs X0).heap.size ∧ ¬ xA X0 (as' 1001)
  rw [e]
  exact h
end LST
theorem nc_L_7 : NC RL 7 5 [.null, .null, .null, .null, .null] := ⟨_, _, _, tyX5, rfl, by decide +kernel, tyX5_ok, by decide +kernel, fun as j hj => by match j, hj with | 0, _ => rfl | 1, _ => rfl | 2, _ => rfl | 3, _ => rfl | 4, _ => rfl, rfl⟩
theorem li_L_9 : LkI RL 9 yX5_init cX5_init 1 0 := ⟨by decide +kernel, rfl, by decide +kernel, by decide⟩
theorem nc_L_10 : NC RL 10 6 [.int 0, .int 0, .null, .null, .null, .null, .int 0, .int 0, .int 0, .long 0, .long 0, .null, .null, .int 0, .null, .null, .long 0, .null, .long 0, .long 0, .null] := ⟨_, _, _, tyX6, rfl, by decide +kernel, tyX6_ok, by decide +kernel, fun as j hj => by match j, hj with | 0, _ => rfl | 1, _ => rfl | 2, _ => rfl | 3, _ => rfl | 4, _ => rfl | 5, _ => rfl | 6, _ => rfl | 7, _ => rfl | 8, _ => rfl | 9, _ => rfl | 10, _ => rfl | 11, _ => rfl | 12, _ => rfl | 13, _ => rfl | 14, _ => rfl | 15, _ => rfl | 16, _ => rfl | 17, _ => rfl | 18, _ => rfl | 19, _ => rfl | 20, _ => rfl | j + 21, hj => exact absurd (show j + 21 < 21 from hj) (by omega), rfl⟩
theorem li_L_12 : LkI RL 12 yX6_init cX6_init 1 0 := ⟨by decide +kernel, rfl, by decide +kernel, by decide⟩
theorem law_i0 (tl : List PC) (D : Nat → Int32) (G : SG) (h0 : G.1 = 0) (e : tl = mt (jJ 1 0 (fun _ => 0) (fun _ => 0)) (iN (fun _ => 0), iN (fun _ => 0), nI 0, 0) D G) (N : SN) (hN : N.2.1 0 = 0) (F : SF) : LawI (hC (jJ 1 0 (fun _ => 0) (fun _ => 0)) (iN (fun _ => 0)) (pP 0 (fun _ => 0) (fun _ => 0) (fun _ => 0)) N F tl) := by
  refine ⟨1, 0, fun _ => 0, fun _ => 0, fun _ => 0, fun _ => 0, tl, ⟨fun _ => 0, 0, fun _ => 0, fun _ => 0, fun _ => 0, N, F, ⟨by decide, by decide, by decide, fun k hk => absurd hk (Nat.not_lt_zero k), rfl, fun c c1 c2 => ?_, fun j _ => Nat.zero_le _⟩, ⟨fun k _ => Nat.zero_le _, fun k _ _ => rfl⟩, Or.inl rfl, ⟨hN, fun k _ => Nat.zero_le _⟩, rfl⟩, ⟨fun _ => 0, fun _ => 0, 0, 0, D, G, ⟨by decide, by decide, by decide, fun k hk => absurd hk (Nat.not_lt_zero k), fun k hk => absurd hk (Nat.not_lt_zero k)⟩, fun j _ => Nat.zero_le _, Or.inl rfl, Or.inl h0, e⟩, fun k hk => absurd hk (Nat.not_lt_zero k)⟩
  have c2 : c < 1 := c2
  omega
set_option maxHeartbeats 8000000 in
set_option maxRecDepth 100000 in
theorem law_begin {X : MX} {L : Nat} {sc : Nat → Int32} (mna : Mna) (hL : L ≤ 2560) (C : Cx RL cL_law 4 (some .boolean) 6 X) (S : LSt X X 0 0) (hS : SX L sc X) (fin : ∀ X', LSt X X' 33 6258 → ∀ h lv, V 4 X' h 441 lv [.int 1]) : V 4 X [] 0 [(0, .ref 1001)] [] := by
  have S0 := S
  refine v_eq (h' := []) (lv' := [(0, .ref 1001)]) (st' := []) ?_ rfl rfl rfl rfl
  refine v_new C dL_law_0 nc_L_7 (ls_room S (by decide) (by decide)) (by decide) (trivial) rfl rfl rfl (fun X g => ?_)
  have S := ls_step S g
  have C := ls_cx S (by decide) (by decide)
  refine v_dup C dL_law_3 rfl ?_
  refine v_eq (h' := [pO 5 [.null, .null, .null, .null, .null]]) (lv' := [(0, .ref 1001)]) (st' := [.ref 0, .ref 0]) ?_ rfl rfl rfl rfl
  refine v_callI C (ls_na S) dL_law_4 li_L_9 (k_X5 mna) (by decide) (ls_room S (by decide) (by decide)) rfl rfl (by decide) rfl rfl (fun X h' g hp => ?_)
  subst hp
  have S := ls_step S g
  have C := ls_cx S (by decide) (by decide)
  refine v_astore_n C dL_law_7 (by decide) ?_
  refine v_eq (h' := [pO 5 [.ref 1, .ref 4, .ref 6, .ref 10, .ref 14], pO 1 [.int 1, .int 0, .ref 2, .ref 3], pI 4 (fun _ => 0), pI 4 (fun _ => 0), pO 4 [.ref 1, .ref 5], pI 2401 (fun _ => 0), pO 3 [.ref 1, .ref 4, .ref 7, .ref 8, .ref 9, .int 0], pI 96 (fun _ => 0), pI 4 (fun _ => 0), pI 4 (fun _ => 0), pO 2 [.ref 11, .ref 1, .ref 12, .ref 13], pL 4 (fun _ => 0), pL 61 (fun _ => 0), pI 61 (fun _ => 0), pO 0 [.long 0, .long 1, .ref 1, .ref 10, .ref 15, .long 1, .ref 20, .ref 21], pR 4 rowF, pL 5 (fun _ => 0), pL 5 (fun _ => 0), pL 5 (fun _ => 0), pL 5 (fun _ => 0), pI 4 (fun _ => 0), pL 4 (fun _ => 0)]) (lv' := [(0, .ref 1001), (1, .ref 0)]) (st' := []) ?_ rfl rfl rfl rfl
  refine v_new C dL_law_8 nc_L_10 (ls_room S (by decide) (by decide)) (by decide) (And.intro rfl (And.intro rfl (And.intro trivial (And.intro trivial (And.intro rfl (And.intro trivial (And.intro rfl (And.intro trivial (And.intro trivial (And.intro trivial (And.intro rfl (And.intro trivial (And.intro trivial (And.intro trivial (And.intro rfl (And.intro (fun i k e => rowF_lt (by decide) e) (And.intro trivial (And.intro trivial (And.intro trivial (And.intro trivial (And.intro trivial (And.intro trivial (trivial))))))))))))))))))))))) rfl rfl rfl (fun X g => ?_)
  have S := ls_step S g
  have C := ls_cx S (by decide) (by decide)
  refine v_dup C dL_law_11 rfl ?_
  refine v_eq (h' := [pO 5 [.ref 1, .ref 4, .ref 6, .ref 10, .ref 14], pO 1 [.int 1, .int 0, .ref 2, .ref 3], pI 4 (fun _ => 0), pI 4 (fun _ => 0), pO 4 [.ref 1, .ref 5], pI 2401 (fun _ => 0), pO 3 [.ref 1, .ref 4, .ref 7, .ref 8, .ref 9, .int 0], pI 96 (fun _ => 0), pI 4 (fun _ => 0), pI 4 (fun _ => 0), pO 2 [.ref 11, .ref 1, .ref 12, .ref 13], pL 4 (fun _ => 0), pL 61 (fun _ => 0), pI 61 (fun _ => 0), pO 0 [.long 0, .long 1, .ref 1, .ref 10, .ref 15, .long 1, .ref 20, .ref 21], pR 4 rowF, pL 5 (fun _ => 0), pL 5 (fun _ => 0), pL 5 (fun _ => 0), pL 5 (fun _ => 0), pI 4 (fun _ => 0), pL 4 (fun _ => 0), pO 6 [.int 0, .int 0, .null, .null, .null, .null, .int 0, .int 0, .int 0, .long 0, .long 0, .null, .null, .int 0, .null, .null, .long 0, .null, .long 0, .long 0, .null]]) (lv' := [(0, .ref 1001), (1, .ref 0)]) (st' := [.ref 22, .ref 22]) ?_ rfl rfl rfl rfl
  refine v_callI C (ls_na S) dL_law_12 li_L_12 k_X6 (by decide) (ls_room S (by decide) (by decide)) rfl rfl (by decide) rfl rfl (fun X h' g hp => ?_)
  subst hp
  have S := ls_step S g
  have C := ls_cx S (by decide) (by decide)
  refine v_astore_n C dL_law_15 (by decide) ?_
  refine v_iconst C (0) dL_law_16 (by decide) ?_
  refine v_istore_n C dL_law_17 (by decide) ?_
  refine v_eq (law_loop_open floorC floorM hL C (ls_sx S hS) (fin _ S) (L + 5) 0 _ (by omega) (Nat.zero_le L) (law_i0 _ (fun _ => 0) (0, 0, 0, fun _ => 0, 0, fun _ => 0, fun _ => 0, 0, fun _ => 0, 0, 0, fun _ => 0) rfl rfl (fun _ => 0, fun _ => 0, fun _ => 0) rfl (0, 1, 1, (fun _ => 0, fun _ => 0, fun _ => 0, fun _ => 0), fun _ => 0, fun _ => 0))) rfl rfl rfl rfl
