/-! the reference's offer, search -/
def tf (i j k l : Nat) (x : Nat) : Nat := if x = 0 then i else if x = 1 then j else if x = 2 then k else l
theorem r4_f (A : Nat → Nat → Int) (i j k l : Nat) : (fun x => A (tf i j k l x)) = r4 A i j k l := by
  funext x
  unfold tf r4
  split
  · rfl
  · split
    · rfl
    · split <;> rfl
def Bst (rc : Nat) (A : Nat → Nat → Int) (dq : Nat → Int) (P : Nat → Nat → Nat → Nat → Prop) (bc : Nat → Int) (bu bm : Int) : Prop :=
  0 ≤ bu ∧ bu ≤ 311040000 ∧ (bu ≠ 0 → (∀ j, j < 4 → Sm 311040000 (bc j)) ∧ bm = dot4 dq bc ∧ Fe rc A bc bu) ∧ ∀ i j k l, i < j → j < k → k < l → l < rc → P i j k l → ∀ σ, Cnd rc A (r4 A i j k l) σ → bu ≠ 0 ∧ dot4 dq (fun c => σ * Det4 (cR (r4 A i j k l) c)) * bu ≤ bm * (σ * Det4 (r4 A i j k l))
theorem bst_mono {rc : Nat} {A : Nat → Nat → Int} {dq : Nat → Int} {P P' : Nat → Nat → Nat → Nat → Prop} {bc : Nat → Int} {bu bm : Int} (h : Bst rc A dq P bc bu bm) (hP : ∀ i j k l, i < j → j < k → k < l → l < rc → P' i j k l → P i j k l) : Bst rc A dq P' bc bu bm :=
  ⟨h.1, h.2.1, h.2.2.1, fun i j k l a b c e f => h.2.2.2 i j k l a b c e (hP i j k l a b c e f)⟩
def Bf (i j k l : Nat) (i' j' k' l' : Nat) : Prop := i' < i ∨ (i' = i ∧ (j' < j ∨ (j' = j ∧ (k' < k ∨ (k' = k ∧ l' < l)))))
section SEARCH
variable {c : Nat → PC} {W n : Nat} {w q : Nat → Nat} {Q : SQ} {D : Nat → Int32} {d : Nat}
variable {ik : Int32} {tp bt : Int64} {rw : Nat → Int32} {rc : Nat} {ch : Nat → Int32} {co : Nat → Int64} {un : Int64} {bc : Nat → Int64} {bu bm : Int64} {wk : Nat → Int64}
set_option maxHeartbeats 8000000 in
set_option maxRecDepth 100000 in
theorem m_offer (cz : Nat → Int) (uz buz bmz : Int) (hn : n ≤ 4) (hq : ∀ k, k < 4 → qn n q k ≤ 6) (hco : ∀ j, j < 4 → co j = lI (cz j)) (hcs : ∀ j, j < 4 → Sm 311040000 (cz j)) (hun : un = lI uz) (hu1 : 0 < uz) (hu2 : uz ≤ 311040000) (hbu : bu = lI buz) (hb1 : 0 ≤ buz) (hb2 : buz ≤ 311040000) (hbm : bm = lI bmz) (hbs : buz ≠ 0 → Sm 7464960000 bmz) (hd : 1 ≤ d) : Con yX6_offer cX6_offer 4 none d [.ref 22] (hM c (jJ W n w q) Q D (gG ik tp bt rw rc ch co un bc bu bm wk)) (fun r h' => r = none ∧ (((buz = 0 ∨ bmz * uz < dot4 (fun k => (qn n q k : Int)) cz * buz) ∧ ∃ bc', (∀ j, j < 4 → bc' j = lI (cz j)) ∧ h' = hM c (jJ W n w q) Q D (gG ik tp bt rw rc ch co un bc' (lI uz) (lI (dot4 (fun k => (qn n q k : Int)) cz)) wk)) ∨ (¬ (buz = 0 ∨ bmz * uz < dot4 (fun k => (qn n q k : Int)) cz * buz) ∧ h' = hM c (jJ W n w q) Q D (gG ik tp bt rw rc ch co un bc bu bm wk)))) := by
  refine con_of [(0, .ref 22)] (by decide) (fun _ => Nat.le_of_ble_eq_true rfl) (fun _ => rfl) (fun X C E => ?_)
  have L0 : Sm L62 0 := by unfold Sm L62; omega
  have hmd : Sm 7464960000 (dot4 (fun k => (qn n q k : Int)) cz) := by
    have h := sm_dot (A := 6) (B := 311040000) (by decide) (by decide) (u := fun k => (qn n q k : Int)) (v := cz) (fun k hk => by have := hq k hk; unfold Sm; omega) hcs
    exact sm_le (by decide) h
  generalize hmm : dot4 (fun k => (qn n q k : Int)) cz = mz at hmd
  have cpy : ∀ (cnd : buz = 0 ∨ bmz * uz < mz * buz) (p k : Nat) (bc' : Nat → Int64), k + p = 4 → (∀ j, j < k → bc' j = lI (cz j)) → V 4 X (hM c (jJ W n w q) Q D (gG ik tp bt rw rc ch co un bc' (lI uz) (lI mz) wk)) 74 [(0, .ref 22), (1, .long (lI mz)), (3, .int (nI k))] [] := by
    intro cnd p
    induction p with
    | zero =>
      intro k bc' hk h1
      obtain rfl : k = 4 := by omega
      refine v_iload_n C dX6_offer_74 rfl ?_
      refine v_iconst C (4) dX6_offer_75 (by decide) ?_
      refine v_icmp_ge C 97 dX6_offer_76 (by decide) (fun _ => ?_) (fun q => absurd (nI_le (a := 4) (b := 4) (by decide) (by decide)) q)
      exact v_vret C E dX6_offer_97 ⟨rfl, Or.inl ⟨by rw [hmm]; exact cnd, bc', h1, by rw [hmm]⟩⟩
    | succ p ih =>
      intro k bc' hk h1
      have hk4 : k < 4 := by omega
      refine v_iload_n C dX6_offer_74 rfl ?_
      refine v_iconst C (4) dX6_offer_75 (by decide) ?_
      refine v_icmp_ge C 97 dX6_offer_76 (by decide) (fun q => absurd q (nI_ge (b := 4) hk4 (by omega))) (fun _ => ?_)
      refine v_aload_n C dX6_offer_79 rfl ?_
      refine v_get C dX6_offer_80 fl_X6_39 rfl rfl ?_
      refine v_iload_n C dX6_offer_83 rfl ?_
      refine v_aload_n C dX6_offer_84 rfl ?_
      refine v_get C dX6_offer_85 fl_X6_35 rfl rfl ?_
      refine v_iload_n C dX6_offer_88 rfl ?_
      refine v_lald C k dX6_offer_89 rfl rfl hk4 (by decide) ?_
      refine v_last C k dX6_offer_90 rfl rfl hk4 (by decide) ?_
      refine v_iinc C dX6_offer_91 rfl (nI_1 k) (by decide) ?_
      refine v_goto C 74 dX6_offer_94 (by decide) ?_
      refine ih (k + 1) (vp_updL bc' k (co k)) (by omega) (fun j hj => ?_)
      by_cases e : j = k
      · rw [e, show vp_updL bc' k (co k) k = co k from if_pos rfl]; exact hco k hk4
      · rw [show vp_updL bc' k (co k) j = bc' j from if_neg e]; exact h1 j (by omega)
  have take : (buz = 0 ∨ bmz * uz < mz * buz) → V 4 X (hM c (jJ W n w q) Q D (gG ik tp bt rw rc ch co un bc bu bm wk)) 59 [(0, .ref 22), (1, .long (lI mz)), (3, .int (nI 4))] [] := by
    intro cnd
    refine v_aload_n C dX6_offer_59 rfl ?_
    refine v_lload_n C dX6_offer_60 rfl ?_
    refine v_put C dX6_offer_61 fp_X6_121 rfl (fun _ => rfl) (fun _ => rfl) (Nat.le_of_ble_eq_true rfl) ?_
    refine v_aload_n C dX6_offer_64 rfl ?_
    refine v_aload_n C dX6_offer_65 rfl ?_
    refine v_get C dX6_offer_66 fl_X6_107 rfl rfl ?_
    refine v_put C dX6_offer_69 fp_X6_111 rfl (fun _ => rfl) (fun _ => rfl) (Nat.le_of_ble_eq_true rfl) ?_
    refine v_iconst C (0) dX6_offer_72 (by decide) ?_
    refine v_istore_n C dX6_offer_73 (by decide) ?_
    refine v_eq (cpy cnd 4 0 bc rfl (fun j hj => absurd hj (Nat.not_lt_zero j))) ?_ rfl rfl rfl
    rw [← hun]
    rfl
  have sum : ∀ (p k : Nat), k + p = 4 → V 4 X (hM c (jJ W n w q) Q D (gG ik tp bt rw rc ch co un bc bu bm wk)) 4 [(0, .ref 22), (1, .long (lI (dP (fun k => (qn n q k : Int)) cz k))), (3, .int (nI k))] [] := by
    intro p
    induction p with
    | zero =>
      intro k hk
      obtain rfl : k = 4 := by omega
      rw [dP_4, hmm]
      refine v_iload_n C dX6_offer_4 rfl ?_
      refine v_iconst C (4) dX6_offer_5 (by decide) ?_
      refine v_icmp_ge C 31 dX6_offer_6 (by decide) (fun _ => ?_) (fun q => absurd (nI_le (a := 4) (b := 4) (by decide) (by decide)) q)
      refine v_aload_n C dX6_offer_31 rfl ?_
      refine v_get C dX6_offer_32 fl_X6_111 rfl rfl ?_
      refine v_lconst C (0) dX6_offer_35 (by decide) ?_
      refine v_lcmp C dX6_offer_36 ?_
      have sbu : Sm L62 buz := by unfold Sm L62; omega
      by_cases c0 : buz = 0
      · refine v_if_eq C 59 dX6_offer_37 (by decide) (fun _ => ?_) (fun q => absurd (((lg_cmp_eq _ _).mpr (by show bu = 0; rw [hbu, c0]; rfl))) q)
        exact take (Or.inl c0)
      · refine v_if_eq C 59 dX6_offer_37 (by decide) (fun q => absurd q ((fun z => c0 ((lI_eq sbu L0).mp (hbu ▸ (lg_cmp_eq _ _).mp z))))) (fun _ => ?_)
        refine v_lload_n C dX6_offer_40 rfl ?_
        refine v_aload_n C dX6_offer_41 rfl ?_
        refine v_get C dX6_offer_42 fl_X6_111 rfl rfl ?_
        refine v_lmul C dX6_offer_45 ?_
        refine v_aload_n C dX6_offer_46 rfl ?_
        refine v_get C dX6_offer_47 fl_X6_121 rfl rfl ?_
        refine v_aload_n C dX6_offer_50 rfl ?_
        refine v_get C dX6_offer_51 fl_X6_107 rfl rfl ?_
        refine v_lmul C dX6_offer_54 ?_
        refine v_lcmp C dX6_offer_55 ?_
        have sa : Sm L62 (mz * buz) := by
          have h := sm_mul (A := 7464960000) (B := 311040000) (by decide) (by decide) hmd (b := buz) (by unfold Sm; omega)
          exact sm_le (by unfold L62; decide) h
        have sb : Sm L62 (bmz * uz) := by
          have h := sm_mul (A := 7464960000) (B := 311040000) (by decide) (by decide) (hbs c0) (b := uz) (by unfold Sm; omega)
          exact sm_le (by unfold L62; decide) h
        have hcm : (lg_cmp (lI mz * bu) (bm * un) ≤ 0) ↔ mz * buz ≤ bmz * uz := by
          rw [lg_cmp_le, hbu, hbm, hun, lI_mul, lI_mul, lI_le sa sb]
        by_cases c1 : mz * buz ≤ bmz * uz
        · refine v_if_le C 97 dX6_offer_56 (by decide) (fun _ => ?_) (fun q => absurd ((hcm.mpr c1)) q)
          exact v_vret C E dX6_offer_97 ⟨rfl, Or.inr ⟨by rw [hmm]; omega, rfl⟩⟩
        · refine v_if_le C 97 dX6_offer_56 (by decide) (fun q => absurd q ((fun z => c1 (hcm.mp z)))) (fun _ => ?_)
          exact take (Or.inr (by omega))
    | succ p ih =>
      intro k hk
      have hk4 : k < 4 := by omega
      refine v_iload_n C dX6_offer_4 rfl ?_
      refine v_iconst C (4) dX6_offer_5 (by decide) ?_
      refine v_icmp_ge C 31 dX6_offer_6 (by decide) (fun q => absurd q (nI_ge (b := 4) hk4 (by omega))) (fun _ => ?_)
      refine v_lload_n C dX6_offer_9 rfl ?_
      refine v_aload_n C dX6_offer_10 rfl ?_
      refine v_iload_n C dX6_offer_11 rfl ?_
      refine v_callV C dX6_offer_12 lk_X6_66 (m_demandOf (d := 0) k hk4 hn) (by omega) rfl rfl rfl rfl rfl (Nat.le_of_ble_eq_true rfl) ?_
      rintro o h' ⟨rfl, rfl⟩
      refine v_i2l C dX6_offer_15 ?_
      refine v_aload_n C dX6_offer_16 rfl ?_
      refine v_get C dX6_offer_17 fl_X6_35 rfl rfl ?_
      refine v_iload_n C dX6_offer_20 rfl ?_
      refine v_lald C k dX6_offer_21 rfl rfl hk4 (by decide) ?_
      refine v_lmul C dX6_offer_22 ?_
      refine v_ladd C dX6_offer_23 ?_
      refine v_lstore_n C dX6_offer_24 (by decide) ?_
      refine v_iinc C dX6_offer_25 rfl (nI_1 k) (by decide) ?_
      refine v_goto C 4 dX6_offer_28 (by decide) ?_
      refine v_eq (ih (k + 1) (by omega)) rfl rfl ?_ rfl
      have e1 : lI (dP (fun k => (qn n q k : Int)) cz k) + (nI (qn n q k)).toInt64 * co k = lI (dP (fun k => (qn n q k : Int)) cz (k + 1)) := by
        rw [nI_lI (by have := hq k hk4; omega), hco k hk4, lI_mul, lI_add]
        rfl
      rw [← e1]
      rfl
  refine v_lconst C (0) dX6_offer_0 (by decide) ?_
  refine v_lstore_n C dX6_offer_1 (by decide) ?_
  refine v_iconst C (0) dX6_offer_2 (by decide) ?_
  refine v_istore_n C dX6_offer_3 (by decide) ?_
  exact sum 4 0 rfl
set_option maxHeartbeats 8000000 in
set_option maxRecDepth 100000 in
theorem m_search (A : Nat → Nat → Int) (hn : n ≤ 4) (hq : ∀ k, k < 4 → qn n q k ≤ 6) (hrc : rc ≤ 200) (hR : RW rw rc A) (hd : 2 ≤ d) : Con yX6_search cX6_search 5 none d [.ref 22] (hM c (jJ W n w q) Q D (gG ik tp bt rw rc ch co un bc bu bm wk)) (fun r h' => r = none ∧ ∃ (bcz : Nat → Int) (buz bmz : Int) (ch' : Nat → Int32) (co' : Nat → Int64) (un' : Int64) (bc' : Nat → Int64) (wk' : Nat → Int64), Bst rc A (fun k => (qn n q k : Int)) (fun _ _ _ _ => True) bcz buz bmz ∧ (∀ j, j < 4 → bc' j = lI (bcz j)) ∧ h' = hM c (jJ W n w q) Q D (gG ik tp bt rw rc ch' co' un' bc' (lI buz) (lI bmz) wk')) := by
  refine con_of [(0, .ref 22)] (by decide) (fun _ => Nat.le_of_ble_eq_true rfl) (fun _ => rfl) (fun X C E => ?_)
  generalize hdq : (fun k => (qn n q k : Int)) = dq
  -- the states, by what has been met
  have Lp : ∀ (P : Nat → Nat → Nat → Nat → Prop) (pc : Nat) (lv : List (Nat × Value)), (∀ (bcz : Nat → Int) (buz bmz : Int) (ch : Nat → Int32) (co : Nat → Int64) (un : Int64) (bc : Nat → Int64) (wk : Nat → Int64), Bst rc A dq P bcz buz bmz → (∀ j, j < 4 → bc j = lI (bcz j)) → V 5 X (hM c (jJ W n w q) Q D (gG ik tp bt rw rc ch co un bc (lI buz) (lI bmz) wk)) pc lv []) → ∀ (bcz : Nat → Int) (buz bmz : Int) (ch : Nat → Int32) (co : Nat → Int64) (un : Int64) (bc : Nat → Int64) (wk : Nat → Int64), Bst rc A dq P bcz buz bmz → (∀ j, j < 4 → bc j = lI (bcz j)) → V 5 X (hM c (jJ W n w q) Q D (gG ik tp bt rw rc ch co un bc (lI buz) (lI bmz) wk)) pc lv [] := fun _ _ _ h => h
  have loopL : ∀ (i j k : Nat), i < j → j < k → k < rc → (∀ (bcz : Nat → Int) (buz bmz : Int) (ch : Nat → Int32) (co : Nat → Int64) (un : Int64) (bc : Nat → Int64) (wk : Nat → Int64), Bst rc A dq (Bf i j (k + 1) 0) bcz buz bmz → (∀ j, j < 4 → bc j = lI (bcz j)) → V 5 X (hM c (jJ W n w q) Q D (gG ik tp bt rw rc ch co un bc (lI buz) (lI bmz) wk)) 31 [(0, .ref 22), (1, .int (nI i)), (2, .int (nI j)), (3, .int (nI (k + 1)))] []) → ∀ (p l : Nat), l + p = rc → k < l → ∀ (bcz : Nat → Int) (buz bmz : Int) (ch : Nat → Int32) (co : Nat → Int64) (un : Int64) (bc : Nat → Int64) (wk : Nat → Int64), Bst rc A dq (Bf i j k l) bcz buz bmz → (∀ j, j < 4 → bc j = lI (bcz j)) → V 5 X (hM c (jJ W n w q) Q D (gG ik tp bt rw rc ch co un bc (lI buz) (lI bmz) wk)) 44 [(0, .ref 22), (1, .int (nI i)), (2, .int (nI j)), (3, .int (nI k)), (4, .int (nI l))] [] := by
    intro i j k hij hjk hk nxt p
    induction p with
    | zero =>
      intro l hl hkl bcz buz bmz ch co un bc wk hB hbc
      refine v_iload C dX6_search_44 rfl ?_
      refine v_aload_n C dX6_search_46 rfl ?_
      refine v_get C dX6_search_47 fl_X6_100 rfl rfl ?_
      refine v_icmp_ge C 99 dX6_search_50 (by decide) (fun _ => ?_) (fun q => absurd (nI_le (by omega) (by omega)) q)
      refine v_iinc C dX6_search_99 rfl (nI_1 k) (by decide) ?_
      refine v_goto C 31 dX6_search_102 (by decide) ?_
      refine v_keep [0, 1, 2, 3] (nxt bcz buz bmz ch co un bc wk (bst_mono hB (fun i' j' k' l' _ _ _ _ h => ?_)) hbc)
      unfold Bf at *
      omega
    | succ p ih =>
      intro l hl hkl bcz buz bmz ch co un bc wk hB hbc
      have hll : l < rc := by omega
      refine v_iload C dX6_search_44 rfl ?_
      refine v_aload_n C dX6_search_46 rfl ?_
      refine v_get C dX6_search_47 fl_X6_100 rfl rfl ?_
      refine v_icmp_ge C 99 dX6_search_50 (by decide) (fun q => absurd q (nI_ge hll (by omega))) (fun _ => ?_)
      refine v_aload_n C dX6_search_53 rfl ?_
      refine v_get C dX6_search_54 fl_X6_32 rfl rfl ?_
      refine v_iconst C (0) dX6_search_57 (by decide) ?_
      refine v_iload_n C dX6_search_58 rfl ?_
      refine v_iast C 0 dX6_search_59 rfl rfl (by decide) (by decide) ?_
      refine v_aload_n C dX6_search_60 rfl ?_
      refine v_get C dX6_search_61 fl_X6_32 rfl rfl ?_
      refine v_iconst C (1) dX6_search_64 (by decide) ?_
      refine v_iload_n C dX6_search_65 rfl ?_
      refine v_iast C 1 dX6_search_66 rfl rfl (by decide) (by decide) ?_
      refine v_aload_n C dX6_search_67 rfl ?_
      refine v_get C dX6_search_68 fl_X6_32 rfl rfl ?_
      refine v_iconst C (2) dX6_search_71 (by decide) ?_
      refine v_iload_n C dX6_search_72 rfl ?_
      refine v_iast C 2 dX6_search_73 rfl rfl (by decide) (by decide) ?_
      refine v_aload_n C dX6_search_74 rfl ?_
      refine v_get C dX6_search_75 fl_X6_32 rfl rfl ?_
      refine v_iconst C (3) dX6_search_78 (by decide) ?_
      refine v_iload C dX6_search_79 rfl ?_
      refine v_iast C 3 dX6_search_81 rfl rfl (by decide) (by decide) ?_
      refine v_aload_n C dX6_search_82 rfl ?_
      have hf : ∀ x, x < 4 → upd (upd (upd (upd ch 0 (nI i)) 1 (nI j)) 2 (nI k)) 3 (nI l) x = nI (tf i j k l x) ∧ tf i j k l x < rc := all4 ⟨rfl, by show i < rc; omega⟩ ⟨rfl, by show j < rc; omega⟩ ⟨rfl, hk⟩ ⟨rfl, hll⟩
      refine v_callV C dX6_search_83 lk_X6_114 (m_meets (d := 1) (c := c) (M := jJ W n w q) (Q := Q) (D := D) (ik := ik) (tp := tp) (bt := bt) (rw := rw) (rc := rc) (ch := upd (upd (upd (upd ch 0 (nI i)) 1 (nI j)) 2 (nI k)) 3 (nI l)) (co := co) (un := un) (bc := bc) (bu := lI buz) (bm := lI bmz) (wk := wk) A (tf i j k l) hrc hR hf (by decide)) (by omega) rfl rfl rfl rfl rfl (Nat.le_of_ble_eq_true rfl) ?_
      rintro o h' ⟨co', un', wk', rfl, hres⟩
      rw [r4_f] at hres
      have step : ∀ (bcz : Nat → Int) (buz bmz : Int) (bc : Nat → Int64), Bst rc A dq (Bf i j k (l + 1)) bcz buz bmz → (∀ j, j < 4 → bc j = lI (bcz j)) → V 5 X (hM c (jJ W n w q) Q D (gG ik tp bt rw rc (upd (upd (upd (upd ch 0 (nI i)) 1 (nI j)) 2 (nI k)) 3 (nI l)) co' un' bc (lI buz) (lI bmz) wk')) 93 [(0, .ref 22), (1, .int (nI i)), (2, .int (nI j)), (3, .int (nI k)), (4, .int (nI l))] [] := by
        intro bcz buz bmz bc hB hbc
        refine v_iinc C dX6_search_93 rfl (nI_1 l) (by decide) ?_
        refine v_goto C 44 dX6_search_96 (by decide) ?_
        exact ih (l + 1) (by omega) (by omega) bcz buz bmz _ co' un' bc wk' hB hbc
      have split : ∀ {i' j' k' l' : Nat}, Bf i j k (l + 1) i' j' k' l' → Bf i j k l i' j' k' l' ∨ (i' = i ∧ j' = j ∧ k' = k ∧ l' = l) := by
        intro i' j' k' l' h
        unfold Bf at *
        omega
      rcases hres with ⟨rfl, σ, hC, hun, hco⟩ | ⟨rfl, hno⟩
      · refine v_if_eq C 93 dX6_search_86 (by decide) (fun q => absurd q ((by decide))) (fun _ => ?_)
        refine v_aload_n C dX6_search_89 rfl ?_
        have hent := ent_sm (f := tf i j k l) hR (fun x hx => (hf x hx).2)
        rw [r4_f] at hent
        have hds : Sm 311040000 (Det4 (r4 A i j k l)) := sm_det (fun x hx y hy => by
          have := hent.1 x hx y hy
          have e := congrFun (r4_f A i j k l) x
          rw [← e]
          exact this)
        have hcs : ∀ j_1, j_1 < 4 → Sm 311040000 (σ * Det4 (cR (r4 A i j k l) j_1)) := fun x hx => sm_sg hC.1 (sm_det (hent.2 x hx))
        have hdu := (sm_sg hC.1 hds).2
        have hbs : buz ≠ 0 → Sm 7464960000 bmz := by
          intro hne
          obtain ⟨g1, g2, _⟩ := hB.2.2.1 hne
          rw [g2, ← hdq]
          have h := sm_dot (A := 6) (B := 311040000) (by decide) (by decide) (u := fun k => (qn n q k : Int)) (v := bcz) (fun k hk => by have := hq k hk; unfold Sm; omega) g1
          exact sm_le (by decide) h
        refine v_callV C dX6_search_90 lk_X6_118 (m_offer (d := 1) (W := W) (n := n) (w := w) (q := q) (fun x => σ * Det4 (cR (r4 A i j k l) x)) (σ * Det4 (r4 A i j k l)) buz bmz hn hq hco hcs hun hC.2.1 hdu rfl hB.1 hB.2.1 rfl hbs (by decide)) (by omega) rfl rfl rfl rfl rfl (Nat.le_of_ble_eq_true rfl) ?_
        rintro o h' ⟨rfl, hof⟩
        rw [hdq] at hof
        have sgu : ∀ σ', Cnd rc A (r4 A i j k l) σ' → σ' = σ := by
          intro σ' h'
          have a1 := hC.2.1
          have a2 := h'.2.1
          rcases hC.1 with a | a <;> rcases h'.1 with b | b
          · rw [a, b]
          · exfalso; rw [a] at a1; rw [b] at a2; omega
          · exfalso; rw [a] at a1; rw [b] at a2; omega
          · rw [a, b]
        rcases hof with ⟨cnd, bc', hbc', rfl⟩ | ⟨cnd, rfl⟩
        · refine step (fun x => σ * Det4 (cR (r4 A i j k l) x)) (σ * Det4 (r4 A i j k l)) _ bc' ⟨Int.le_of_lt hC.2.1, hdu, fun _ => ⟨hcs, rfl, hC.2.2⟩, fun i' j' k' l' a b e f g σ' hC' => ?_⟩ hbc'
          have hpos := hC.2.1
          refine ⟨by omega, ?_⟩
          rcases split g with g | ⟨rfl, rfl, rfl, rfl⟩
          · obtain ⟨o1, o2⟩ := hB.2.2.2 i' j' k' l' a b e f g σ' hC'
            have cnd := cnd.resolve_left o1
            have hb0 : 0 < buz := by have := hB.1; omega
            have hp' := hC'.2.1
            generalize σ' * Det4 (r4 A i' j' k' l') = X1 at *
            generalize dot4 dq (fun c => σ' * Det4 (cR (r4 A i' j' k' l') c)) = X2 at *
            generalize dot4 dq (fun c => σ * Det4 (cR (r4 A i j k l) c)) = X3 at *
            generalize σ * Det4 (r4 A i j k l) = X4' at *
            apply Int.le_of_mul_le_mul_right (a := buz) ?_ hb0
            have t1 : X2 * buz * X4' ≤ bmz * X1 * X4' := Int.mul_le_mul_of_nonneg_right o2 (by omega)
            have t2 : bmz * X4' * X1 ≤ X3 * buz * X1 := Int.mul_le_mul_of_nonneg_right (by omega) (by omega)
            have e1 : X2 * X4' * buz = X2 * buz * X4' := by grind
            have e2 : X3 * X1 * buz = X3 * buz * X1 := by grind
            have e3 : bmz * X1 * X4' = bmz * X4' * X1 := by grind
            omega
          · rw [sgu σ' hC']
            exact Int.le_refl _
        · refine step bcz buz bmz bc ⟨hB.1, hB.2.1, hB.2.2.1, fun i' j' k' l' a b e f g σ' hC' => ?_⟩ hbc
          rcases split g with g | ⟨rfl, rfl, rfl, rfl⟩
          · exact hB.2.2.2 i' j' k' l' a b e f g σ' hC'
          · rw [sgu σ' hC']
            refine ⟨fun z => cnd (Or.inl z), ?_⟩
            apply Int.not_lt.mp
            intro z
            exact cnd (Or.inr z)
      · refine v_if_eq C 93 dX6_search_86 (by decide) (fun _ => ?_) (fun q => absurd (rfl) q)
        refine step bcz buz bmz bc ⟨hB.1, hB.2.1, hB.2.2.1, fun i' j' k' l' a b e f g σ' hC' => ?_⟩ hbc
        rcases split g with g | ⟨rfl, rfl, rfl, rfl⟩
        · exact hB.2.2.2 i' j' k' l' a b e f g σ' hC'
        · exact absurd hC' (hno σ')
  have loopK : ∀ (i j : Nat), i < j → j < rc → (∀ (bcz : Nat → Int) (buz bmz : Int) (ch : Nat → Int32) (co : Nat → Int64) (un : Int64) (bc : Nat → Int64) (wk : Nat → Int64), Bst rc A dq (Bf i (j + 1) 0 0) bcz buz bmz → (∀ j, j < 4 → bc j = lI (bcz j)) → V 5 X (hM c (jJ W n w q) Q D (gG ik tp bt rw rc ch co un bc (lI buz) (lI bmz) wk)) 19 [(0, .ref 22), (1, .int (nI i)), (2, .int (nI (j + 1)))] []) → ∀ (p k : Nat), k + p = rc → j < k → ∀ (bcz : Nat → Int) (buz bmz : Int) (ch : Nat → Int32) (co : Nat → Int64) (un : Int64) (bc : Nat → Int64) (wk : Nat → Int64), Bst rc A dq (Bf i j k 0) bcz buz bmz → (∀ j, j < 4 → bc j = lI (bcz j)) → V 5 X (hM c (jJ W n w q) Q D (gG ik tp bt rw rc ch co un bc (lI buz) (lI bmz) wk)) 31 [(0, .ref 22), (1, .int (nI i)), (2, .int (nI j)), (3, .int (nI k))] [] := by
    intro i j hij hj nxt p
    induction p with
    | zero =>
      intro k hk hjk bcz buz bmz ch co un bc wk hB hbc
      refine v_iload_n C dX6_search_31 rfl ?_
      refine v_aload_n C dX6_search_32 rfl ?_
      refine v_get C dX6_search_33 fl_X6_100 rfl rfl ?_
      refine v_icmp_ge C 105 dX6_search_36 (by decide) (fun _ => ?_) (fun q => absurd (nI_le (by omega) (by omega)) q)
      refine v_iinc C dX6_search_105 rfl (nI_1 j) (by decide) ?_
      refine v_goto C 19 dX6_search_108 (by decide) ?_
      refine v_keep [0, 1, 2] (nxt bcz buz bmz ch co un bc wk (bst_mono hB (fun i' j' k' l' _ _ _ _ h => ?_)) hbc)
      unfold Bf at *
      omega
    | succ p ih =>
      intro k hk hjk bcz buz bmz ch co un bc wk hB hbc
      have hkk : k < rc := by omega
      refine v_iload_n C dX6_search_31 rfl ?_
      refine v_aload_n C dX6_search_32 rfl ?_
      refine v_get C dX6_search_33 fl_X6_100 rfl rfl ?_
      refine v_icmp_ge C 105 dX6_search_36 (by decide) (fun q => absurd q (nI_ge hkk (by omega))) (fun _ => ?_)
      refine v_iload_n C dX6_search_39 rfl ?_
      refine v_iconst C (1) dX6_search_40 (by decide) ?_
      refine v_iadd C dX6_search_41 ?_
      refine v_istore C dX6_search_42 (by decide) ?_
      refine v_eq (loopL i j k hij hjk hkk (fun bcz buz bmz ch co un bc wk hB hbc => ih (k + 1) (by omega) (by omega) bcz buz bmz ch co un bc wk hB hbc) (rc - (k + 1)) (k + 1) (by omega) (by omega) bcz buz bmz ch co un bc wk (bst_mono hB (fun i' j' k' l' _ _ _ _ h => ?_)) hbc) rfl rfl (by rw [← nI_1 k]; rfl) rfl
      unfold Bf at *
      omega
  have loopJ : ∀ (i : Nat), i < rc → (∀ (bcz : Nat → Int) (buz bmz : Int) (ch : Nat → Int32) (co : Nat → Int64) (un : Int64) (bc : Nat → Int64) (wk : Nat → Int64), Bst rc A dq (Bf (i + 1) 0 0 0) bcz buz bmz → (∀ j, j < 4 → bc j = lI (bcz j)) → V 5 X (hM c (jJ W n w q) Q D (gG ik tp bt rw rc ch co un bc (lI buz) (lI bmz) wk)) 7 [(0, .ref 22), (1, .int (nI (i + 1)))] []) → ∀ (p j : Nat), j + p = rc → i < j → ∀ (bcz : Nat → Int) (buz bmz : Int) (ch : Nat → Int32) (co : Nat → Int64) (un : Int64) (bc : Nat → Int64) (wk : Nat → Int64), Bst rc A dq (Bf i j 0 0) bcz buz bmz → (∀ j, j < 4 → bc j = lI (bcz j)) → V 5 X (hM c (jJ W n w q) Q D (gG ik tp bt rw rc ch co un bc (lI buz) (lI bmz) wk)) 19 [(0, .ref 22), (1, .int (nI i)), (2, .int (nI j))] [] := by
    intro i hi nxt p
    induction p with
    | zero =>
      intro j hj hij bcz buz bmz ch co un bc wk hB hbc
      refine v_iload_n C dX6_search_19 rfl ?_
      refine v_aload_n C dX6_search_20 rfl ?_
      refine v_get C dX6_search_21 fl_X6_100 rfl rfl ?_
      refine v_icmp_ge C 111 dX6_search_24 (by decide) (fun _ => ?_) (fun q => absurd (nI_le (by omega) (by omega)) q)
      refine v_iinc C dX6_search_111 rfl (nI_1 i) (by decide) ?_
      refine v_goto C 7 dX6_search_114 (by decide) ?_
      refine v_keep [0, 1] (nxt bcz buz bmz ch co un bc wk (bst_mono hB (fun i' j' k' l' _ _ _ _ h => ?_)) hbc)
      unfold Bf at *
      omega
    | succ p ih =>
      intro j hj hij bcz buz bmz ch co un bc wk hB hbc
      have hjj : j < rc := by omega
      refine v_iload_n C dX6_search_19 rfl ?_
      refine v_aload_n C dX6_search_20 rfl ?_
      refine v_get C dX6_search_21 fl_X6_100 rfl rfl ?_
      refine v_icmp_ge C 111 dX6_search_24 (by decide) (fun q => absurd q (nI_ge hjj (by omega))) (fun _ => ?_)
      refine v_iload_n C dX6_search_27 rfl ?_
      refine v_iconst C (1) dX6_search_28 (by decide) ?_
      refine v_iadd C dX6_search_29 ?_
      refine v_istore_n C dX6_search_30 (by decide) ?_
      refine v_eq (loopK i j hij hjj (fun bcz buz bmz ch co un bc wk hB hbc => ih (j + 1) (by omega) (by omega) bcz buz bmz ch co un bc wk hB hbc) (rc - (j + 1)) (j + 1) (by omega) (by omega) bcz buz bmz ch co un bc wk (bst_mono hB (fun i' j' k' l' _ _ _ _ h => ?_)) hbc) rfl rfl (by rw [← nI_1 j]; rfl) rfl
      unfold Bf at *
      omega
  have loopI : ∀ (p i : Nat), i + p = rc → ∀ (bcz : Nat → Int) (buz bmz : Int) (ch : Nat → Int32) (co : Nat → Int64) (un : Int64) (bc : Nat → Int64) (wk : Nat → Int64), Bst rc A dq (Bf i 0 0 0) bcz buz bmz → (∀ j, j < 4 → bc j = lI (bcz j)) → V 5 X (hM c (jJ W n w q) Q D (gG ik tp bt rw rc ch co un bc (lI buz) (lI bmz) wk)) 7 [(0, .ref 22), (1, .int (nI i))] [] := by
    intro p
    induction p with
    | zero =>
      intro i hi bcz buz bmz ch co un bc wk hB hbc
      refine v_iload_n C dX6_search_7 rfl ?_
      refine v_aload_n C dX6_search_8 rfl ?_
      refine v_get C dX6_search_9 fl_X6_100 rfl rfl ?_
      refine v_icmp_ge C 117 dX6_search_12 (by decide) (fun _ => ?_) (fun q => absurd (nI_le (by omega) (by omega)) q)
      refine v_vret C E dX6_search_117 ⟨rfl, bcz, buz, bmz, ch, co, un, bc, wk, bst_mono (hdq ▸ hB) (fun i' j' k' l' _ _ _ _ _ => ?_), hbc, rfl⟩
      unfold Bf
      omega
    | succ p ih =>
      intro i hi bcz buz bmz ch co un bc wk hB hbc
      have hii : i < rc := by omega
      refine v_iload_n C dX6_search_7 rfl ?_
      refine v_aload_n C dX6_search_8 rfl ?_
      refine v_get C dX6_search_9 fl_X6_100 rfl rfl ?_
      refine v_icmp_ge C 117 dX6_search_12 (by decide) (fun q => absurd q (nI_ge hii (by omega))) (fun _ => ?_)
      refine v_iload_n C dX6_search_15 rfl ?_
      refine v_iconst C (1) dX6_search_16 (by decide) ?_
      refine v_iadd C dX6_search_17 ?_
      refine v_istore_n C dX6_search_18 (by decide) ?_
      refine v_eq (loopJ i hii (fun bcz buz bmz ch co un bc wk hB hbc => ih (i + 1) (by omega) bcz buz bmz ch co un bc wk hB hbc) (rc - (i + 1)) (i + 1) (by omega) (by omega) bcz buz bmz ch co un bc wk (bst_mono hB (fun i' j' k' l' _ _ _ _ h => ?_)) hbc) rfl rfl (by rw [← nI_1 i]; rfl) rfl
      unfold Bf at *
      omega
  refine v_aload_n C dX6_search_0 rfl ?_
  refine v_lconst C (0) dX6_search_1 (by decide) ?_
  refine v_put C dX6_search_2 fp_X6_111 rfl (fun _ => rfl) (fun _ => rfl) (Nat.le_of_ble_eq_true rfl) ?_
  refine v_iconst C (0) dX6_search_5 (by decide) ?_
  refine v_istore_n C dX6_search_6 (by decide) ?_
  refine v_eq (loopI rc 0 (by omega) (fun j => (bc j).toInt) 0 bm.toInt ch co un bc wk ⟨Int.le_refl 0, by decide, fun z => absurd rfl z, fun i j k l _ _ _ _ h => ?_⟩ (fun j _ => lI_of _)) ?_ rfl rfl rfl
  · unfold Bf at h
    omega
  · rw [← lI_of]
    rfl
end SEARCH
