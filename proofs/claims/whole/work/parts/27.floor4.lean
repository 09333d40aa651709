/-! the greatest common divisor, reduce -/
def ge : Nat → Nat → Nat → Nat
  | 0, _, b => b
  | f + 1, a, b => if a = 0 then b else ge f (b % a) a
theorem ge_more {k a b : Nat} (h : a < 2 ^ k) (j : Nat) : ge (2 * k + j) a b = Nat.gcd a b := by
  have fz : ∀ (f b : Nat), ge f 0 b = b := fun f b => by cases f with
    | zero => rfl
    | succ f => exact if_pos rfl
  have all : ∀ (k f a b : Nat), a < 2 ^ k → 2 * k ≤ f → ge f a b = Nat.gcd a b := by
    intro k
    induction k with
    | zero =>
      intro f a b ha _
      have : a = 0 := by omega
      subst this
      rw [fz, Nat.gcd_zero_left]
    | succ k ih =>
      intro f a b ha hf
      obtain ⟨f', rfl⟩ : ∃ f', f = f' + 1 + 1 := ⟨f - 2, by omega⟩
      show (if a = 0 then b else ge (f' + 1) (b % a) a) = _
      by_cases h0 : a = 0
      · rw [if_pos h0, h0, Nat.gcd_zero_left]
      · rw [if_neg h0]
        show (if b % a = 0 then a else ge f' (a % (b % a)) (b % a)) = _
        by_cases h1 : b % a = 0
        · rw [if_pos h1, Nat.gcd_rec a b, h1, Nat.gcd_zero_left]
        · rw [if_neg h1]
          have hlt : b % a < a := Nat.mod_lt _ (by omega)
          have h3 : a % (b % a) < 2 ^ k := by
            rw [Nat.pow_succ] at ha
            have h3 : a % (b % a) < b % a := Nat.mod_lt _ (by omega)
            have h4 := Nat.div_add_mod a (b % a)
            have h5 : 0 < a / (b % a) := Nat.div_pos (by omega) (by omega)
            have h6 : b % a ≤ (b % a) * (a / (b % a)) := Nat.le_mul_of_pos_right _ h5
            omega
          rw [ih f' _ _ h3 (by omega), Nat.gcd_rec a b, Nat.gcd_rec (b % a) a]
  exact all k _ a b h (by omega)
section FLOOR4
variable {W n : Nat} {w q : Nat → Nat} {Lf : Nat → Int32} {P : SP} {N : SN} {tl : List PC} {d : Nat} {tp bt dt : Int64} {ρ : Nat → Nat → Int64} {en : Nat → Int32} {sh : Nat → Int64} {R : Nat → Nat → Int} {h : List PC}
set_option maxHeartbeats 8000000 in
set_option maxRecDepth 100000 in
theorem c_gcd (a b : Nat) (ha : a < 2 ^ 40) (hb : b < 2 ^ 40) : Con yX0_greatestCommonDivisor cX0_greatestCommonDivisor 11 (some .long) d [.long (lI a), .long (lI b)] h (fun r h' => r = some (.long (lI (Nat.gcd a b : Nat))) ∧ h' = h) := by
  refine con_of [(0, .long (lI a)), (2, .long (lI b))] (by decide) (fun _ => Nat.le_of_ble_eq_true rfl) (fun _ => rfl) (fun X C E => ?_)
  have z0 : Sm L62 (0 : Int) := by unfold Sm L62; omega
  have key : ∀ (m i x y : Nat), i + m = 100 → x < 2 ^ 40 → y < 2 ^ 40 → ge m x y = Nat.gcd a b → V 11 X h 9 [(0, .long (lI a)), (2, .long (lI b)), (4, .long (lI x)), (6, .long (lI y)), (8, .int (nI i))] [] := by
    intro m
    induction m with
    | zero =>
      intro i x y hi hx hy hg
      refine v_iload C dX0_greatestCommonDivisor_9 rfl ?_
      refine v_bipush C (100) dX0_greatestCommonDivisor_11 (by decide) ?_
      refine v_icmp_ge C 44 dX0_greatestCommonDivisor_13 (by decide) (fun _ => ?_) (fun q => absurd (nI_le (a := 100) (by omega) (by omega)) q)
      refine v_lload C dX0_greatestCommonDivisor_44 rfl ?_
      exact v_lret C E dX0_greatestCommonDivisor_46 ⟨by rw [← hg]; rfl, rfl⟩
    | succ m ih =>
      intro i x y hi hx hy hg
      have sx : Sm L62 (x : Int) := smN (b := 1099511627776) (by omega) (by decide)
      have sy : Sm L62 (y : Int) := smN (b := 1099511627776) (by omega) (by decide)
      refine v_iload C dX0_greatestCommonDivisor_9 rfl ?_
      refine v_bipush C (100) dX0_greatestCommonDivisor_11 (by decide) ?_
      refine v_icmp_ge C 44 dX0_greatestCommonDivisor_13 (by decide) (fun q => absurd q (nI_ge (b := 100) (by omega) (by omega))) (fun _ => ?_)
      refine v_lload C dX0_greatestCommonDivisor_16 rfl ?_
      refine v_lconst C (0) dX0_greatestCommonDivisor_18 (by decide) ?_
      refine v_lcmp C dX0_greatestCommonDivisor_19 ?_
      by_cases e : x = 0
      · subst e
        refine v_if_eq C 44 dX0_greatestCommonDivisor_20 (by decide) (fun _ => ?_) (fun q => absurd ((lg_cmp_eq _ _).mpr rfl) q)
        refine v_lload C dX0_greatestCommonDivisor_44 rfl ?_
        refine v_lret C E dX0_greatestCommonDivisor_46 ⟨?_, rfl⟩
        rw [← hg]
        rw [show ge (m + 1) 0 y = y from if_pos rfl]
      · have hne : ¬ lI (x : Int) = 0 := by
          rw [show (0 : Int64) = lI 0 from rfl, lI_eq sx z0]
          omega
        refine v_if_eq C 44 dX0_greatestCommonDivisor_20 (by decide) (fun q => absurd q ((fun z => hne ((lg_cmp_eq _ _).mp z)))) (fun _ => ?_)
        refine v_lload C dX0_greatestCommonDivisor_23 rfl ?_
        refine v_lload C dX0_greatestCommonDivisor_25 rfl ?_
        refine v_lrem C dX0_greatestCommonDivisor_27 hne ?_
        have er : lI (y : Int) - lI (y : Int) / lI (x : Int) * lI (x : Int) = lI ((y % x : Nat) : Int) := by
          rw [lI_div sy sx (posN (by omega)), lI_mul, lI_sub, Int.tdiv_eq_ediv_of_nonneg (by omega)]
          congr 1
          have h1 : ((y % x : Nat) : Int) = (y : Int) % (x : Int) := rfl
          rw [h1, Int.emod_def, Int.mul_comm]
        refine v_eq (st' := [.long (lI ((y % x : Nat) : Int))]) ?_ rfl rfl rfl (congrArg (fun z => [Value.long z]) er)
        refine v_lstore C dX0_greatestCommonDivisor_28 (by decide) ?_
        refine v_lload C dX0_greatestCommonDivisor_30 rfl ?_
        refine v_lstore C dX0_greatestCommonDivisor_32 (by decide) ?_
        refine v_lload C dX0_greatestCommonDivisor_34 rfl ?_
        refine v_lstore C dX0_greatestCommonDivisor_36 (by decide) ?_
        refine v_iinc C dX0_greatestCommonDivisor_38 rfl (nI_1 i) (by decide) ?_
        refine v_goto C 9 dX0_greatestCommonDivisor_41 (by decide) ?_
        have hm : y % x < x := Nat.mod_lt _ (by omega)
        refine v_keep [0, 2, 4, 6, 8] (ih (i + 1) (y % x) x (by omega) (by omega) hx ?_)
        rw [← hg]
        exact (if_neg e).symm
  refine v_lload_n C dX0_greatestCommonDivisor_0 rfl ?_
  refine v_lstore C dX0_greatestCommonDivisor_1 (by decide) ?_
  refine v_lload_n C dX0_greatestCommonDivisor_3 rfl ?_
  refine v_lstore C dX0_greatestCommonDivisor_4 (by decide) ?_
  refine v_iconst C (0) dX0_greatestCommonDivisor_6 (by decide) ?_
  refine v_istore C dX0_greatestCommonDivisor_7 (by decide) ?_
  exact key 100 0 a b rfl ha hb (ge_more (k := 40) ha 20)
set_option maxHeartbeats 8000000 in
set_option maxRecDepth 100000 in
theorem c_reduce (cs Dt : Nat) (hcs : csum R 0 n = (cs : Int)) (hc : cs < 2 ^ 40) (hDt : dt = lI (Dt : Int)) (hD0 : 0 < Dt) (hD : Dt < 2 ^ 40) (hn : n ≤ 4) (hR : ∀ i, i < n → ρ i 0 = lI (R i 0)) (hd : 1 ≤ d) : Con yX0_reduce cX0_reduce 5 none d [.ref 14] (hC (jJ W n w q) Lf P N (fF tp bt dt ρ en sh) tl) (fun r h' => r = none ∧ h' = hC (jJ W n w q) Lf P N (fF (lI ((cs / Nat.gcd cs Dt : Nat) : Int)) (lI ((Dt / Nat.gcd cs Dt : Nat) : Int)) dt ρ en sh) tl) := by
  refine con_of [(0, .ref 14)] (by decide) (fun _ => Nat.le_of_ble_eq_true rfl) (fun _ => rfl) (fun X C E => ?_)
  have hg0 : 0 < Nat.gcd cs Dt := Nat.gcd_pos_of_pos_right _ hD0
  have hgl : Nat.gcd cs Dt ≤ Dt := Nat.gcd_le_right _ hD0
  have sg : Sm L62 ((Nat.gcd cs Dt : Nat) : Int) := smN (b := 1099511627776) (by omega) (by decide)
  have sc : Sm L62 ((cs : Nat) : Int) := smN (b := 1099511627776) (by omega) (by decide)
  have sd : Sm L62 ((Dt : Nat) : Int) := smN (b := 1099511627776) (by omega) (by decide)
  have hne : ¬ lI ((Nat.gcd cs Dt : Nat) : Int) = 0 := by
    rw [show (0 : Int64) = lI 0 from rfl, lI_eq sg (by unfold Sm L62; omega)]
    have := posN hg0
    exact fun z => by rw [z] at this; exact absurd this (by decide)
  subst hDt
  refine v_aload_n C dX0_reduce_0 rfl ?_
  refine v_iconst C (0) dX0_reduce_1 (by decide) ?_
  refine v_callV C dX0_reduce_2 lk_X0_87 (c_columnSum (d := 0) (R := R) 0 (by decide) hn hR) hd rfl rfl rfl rfl rfl (Nat.le_of_ble_eq_true rfl) ?_
  rintro r h' ⟨rfl, rfl⟩
  rw [hcs]
  refine v_lstore_n C dX0_reduce_5 (by decide) ?_
  refine v_lload_n C dX0_reduce_6 rfl ?_
  refine v_aload_n C dX0_reduce_7 rfl ?_
  refine v_get C dX0_reduce_8 fl_X0_23 rfl rfl ?_
  refine v_callS C dX0_reduce_11 lk_X0_103 (c_gcd (d := 0) cs Dt hc hD) hd rfl rfl (Nat.le_of_ble_eq_true rfl) ?_
  rintro r h' ⟨rfl, rfl⟩
  refine v_lstore_n C dX0_reduce_14 (by decide) ?_
  refine v_aload_n C dX0_reduce_15 rfl ?_
  refine v_lload_n C dX0_reduce_16 rfl ?_
  refine v_lload_n C dX0_reduce_17 rfl ?_
  refine v_ldiv C dX0_reduce_18 hne ?_
  refine v_put C dX0_reduce_19 fp_X0_9 rfl (fun _ => rfl) (fun _ => rfl) (Nat.le_of_ble_eq_true rfl) ?_
  refine v_aload_n C dX0_reduce_22 rfl ?_
  refine v_aload_n C dX0_reduce_23 rfl ?_
  refine v_get C dX0_reduce_24 fl_X0_23 rfl rfl ?_
  refine v_lload_n C dX0_reduce_27 rfl ?_
  refine v_ldiv C dX0_reduce_28 hne ?_
  refine v_put C dX0_reduce_29 fp_X0_15 rfl (fun _ => rfl) (fun _ => rfl) (Nat.le_of_ble_eq_true rfl) ?_
  refine v_vret C E dX0_reduce_32 ⟨rfl, ?_⟩
  show hC (jJ W n w q) Lf P N (fF (lI (cs : Int) / lI ((Nat.gcd cs Dt : Nat) : Int)) (lI (Dt : Int) / lI ((Nat.gcd cs Dt : Nat) : Int)) (lI (Dt : Int)) ρ en sh) tl = _
  rw [lI_div sc sg (posN hg0), lI_div sd sg (posN hg0), Int.tdiv_eq_ediv_of_nonneg (by omega), Int.tdiv_eq_ediv_of_nonneg (by omega)]
  rfl
end FLOOR4
