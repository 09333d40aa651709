/-! the class's picture: labels 0 RollPlanner, 1 Job, 2 width, 3 demand, 4 Reach, 5 least, 6 Plan, 7 cuts, 8 rest, 9 pattern, 10 Knapsack, 11 worth, 12 best, 13 piece, 14 Floor, 15 row, 16..19 its rows, 20 entering, 21 share; then the reference's: 22 RollPlannerModel, 23 widths, 24 demands, 25 fewest, 26 plan, 27 dearest, 28 rows, 29 chosen, 30 corner, 31 bestCorner, 32 work -/
abbrev SJ : Type := Int32 × Int32 × (Nat → Int32) × (Nat → Int32)
abbrev SP : Type := Int32 × (Nat → Int32) × (Nat → Int32) × (Nat → Int32)
abbrev SN : Type := (Nat → Int64) × (Nat → Int64) × (Nat → Int32)
abbrev SF : Type := Int64 × Int64 × Int64 × ((Nat → Int64) × (Nat → Int64) × (Nat → Int64) × (Nat → Int64)) × (Nat → Int32) × (Nat → Int64)
def rowF (i : Nat) : Option Nat := match i with
  | 0 => some 16
  | 1 => some 17
  | 2 => some 18
  | 3 => some 19
  | _ => none
def hC (J : SJ) (L : Nat → Int32) (P : SP) (N : SN) (F : SF) (tl : List PC) : List PC :=
  pO 5 [.ref 1, .ref 4, .ref 6, .ref 10, .ref 14] :: pO 1 [.int J.1, .int J.2.1, .ref 2, .ref 3] :: pI 4 J.2.2.1 :: pI 4 J.2.2.2 ::
  pO 4 [.ref 1, .ref 5] :: pI 2401 L :: pO 3 [.ref 1, .ref 4, .ref 7, .ref 8, .ref 9, .int P.1] :: pI 96 P.2.1 :: pI 4 P.2.2.1 :: pI 4 P.2.2.2 ::
  pO 2 [.ref 11, .ref 1, .ref 12, .ref 13] :: pL 4 N.1 :: pL 61 N.2.1 :: pI 61 N.2.2 ::
  pO 0 [.long F.1, .long F.2.1, .ref 1, .ref 10, .ref 15, .long F.2.2.1, .ref 20, .ref 21] :: pR 4 rowF :: pL 5 F.2.2.2.1.1 :: pL 5 F.2.2.2.1.2.1 :: pL 5 F.2.2.2.1.2.2.1 :: pL 5 F.2.2.2.1.2.2.2 :: pI 4 F.2.2.2.2.1 :: pL 4 F.2.2.2.2.2 :: tl
theorem set_self {h : List PC} {k : Nat} {c : PC} (ho : h[k]? = some c) : h.set k c = h := by
  apply List.ext_getElem?
  intro i
  by_cases e : k = i
  · subst e
    have hl : k < h.length := (List.getElem?_eq_some_iff.mp ho).1
    rw [List.getElem?_set_self hl, ho]
  · rw [List.getElem?_set_ne e]
theorem set_at {h : List PC} {k : Nat} {c c' : PC} (ho : h[k]? = some c) : (h.set k c')[k]? = some c' := by
  rw [List.getElem?_set_self (List.getElem?_eq_some_iff.mp ho).1]
theorem set_set (h : List PC) (k : Nat) (c c' : PC) : (h.set k c).set k c' = h.set k c' := List.set_set c
set_option maxHeartbeats 4000000 in
set_option maxRecDepth 100000 in
/-- Arrays.fill(int[], int) -/
theorem c_fillI (d : Nat) (k n : Nat) (f : Nat → Int32) (x : Int32) (h : List PC) (ho : h[k]? = some (pI n f)) (hn : n < 2 ^ 31) : Con yJ7_fill_53178 cJ7_fill_53178 4 none d [.ref k, .int x] h (fun r h' => r = none ∧ ∃ f', (∀ i, i < n → f' i = x) ∧ h' = h.set k (pI n f')) := by
  refine con_of [(0, .ref k), (1, .int x)] (by decide) (fun _ => Nat.le_of_ble_eq_true rfl) (fun _ => rfl) (fun X C E => ?_)
  have key : ∀ (m i : Nat) (g : Nat → Int32), i + m = n → (∀ j, j < i → g j = x) → V 4 X (h.set k (pI n g)) 5 [(0, .ref k), (1, .int x), (2, .int (nI i)), (3, .int (nI n))] [] := by
    intro m
    induction m with
    | zero =>
      intro i g hi hg
      refine v_iload_n C dJ7_fill_53178_5 rfl ?_
      refine v_iload_n C dJ7_fill_53178_6 rfl ?_
      refine v_icmp_ge C 20 dJ7_fill_53178_7 (by decide) (fun _ => ?_) (fun q => absurd (nI_le (by omega) (by omega)) q)
      exact v_vret C E dJ7_fill_53178_20 ⟨rfl, g, fun j hj => hg j (by omega), rfl⟩
    | succ m ih =>
      intro i g hi hg
      refine v_iload_n C dJ7_fill_53178_5 rfl ?_
      refine v_iload_n C dJ7_fill_53178_6 rfl ?_
      refine v_icmp_ge C 20 dJ7_fill_53178_7 (by decide) (fun q => absurd q (nI_ge (by omega) (by omega))) (fun _ => ?_)
      refine v_aload_n C dJ7_fill_53178_10 rfl ?_
      refine v_iload_n C dJ7_fill_53178_11 rfl ?_
      refine v_iload_n C dJ7_fill_53178_12 rfl ?_
      refine v_iast C i dJ7_fill_53178_13 (set_at ho) rfl (by omega) hn ?_
      refine v_iinc C dJ7_fill_53178_14 rfl (nI_1 i) (by decide) ?_
      refine v_goto C 5 dJ7_fill_53178_17 (by decide) ?_
      refine v_eq (ih (i + 1) (upd g i x) (by omega) (fun j hj => ?_)) (set_set _ _ _ _)
      unfold upd
      by_cases e : j = i
      · rw [if_pos e]
      · rw [if_neg e]
        exact hg j (by omega)
  refine v_iconst C (0) dJ7_fill_53178_0 (by decide) ?_
  refine v_istore_n C dJ7_fill_53178_1 (by decide) ?_
  refine v_aload_n C dJ7_fill_53178_2 rfl ?_
  refine v_ilen C dJ7_fill_53178_3 ho ?_
  refine v_istore_n C dJ7_fill_53178_4 (by decide) ?_
  exact v_eq (key n 0 f (Nat.zero_add n) (fun j hj => absurd hj (Nat.not_lt_zero j))) (set_self ho).symm
