/-! THE CLAIM OUT OF ONE WALK OF THE LAW'S BODY. Your part is whole_start (and what it stands on); all else here is the same for every law, but numbers. -/
def R_law : String := "RollPlannerLaw"
def lw_P (b : Addr) (xs : List Int32) (args : Array Value) (s : State) : Prop := args = #[.ref b] ∧ s.IntsAt b xs ∧ xs.length ≤ 2560 ∧ (Jvm.Cond.and given_1 narrow_1).before args s = true
def lw_Q (_ : Array Value) (s : State) (o : Outcome) (t : State) : Prop := o = .returned (some (.int 1)) ∧ Framed s o t [] 600000 7302250
def lw_Z (below : List Frame) (a : Array Value) (s : State) : State → Prop := fun t => ∃ o, t.status = .running ∧ Ended t below o ∧ lw_Q a s o t
/-- the law's own end, with 1 on the stack, nothing written that was there before, its room as the claim has it -/
theorem lw_ret {p : Program} {l : Launch} {e : Env} {s : State} {m : MethodId} {below : List Frame} {meth : Method} {c : Code} {b : Nat} (hx : p.tables.exec = Jvm.exec) (hb : c.code = code) (hr : meth.sig.returnType = ret) (hlocks : meth.locks = false) {pc : Nat} {H : Heap} {ls : Array Slot} (hdg : decode code pc = .ok (.ireturn, 1)) : W p l e room_1 s m #[Value.ref b] below meth c H [] 600000 7302250 (lw_Z below #[Value.ref b] s) (F0 m pc ls [.int 1]) := by
  intro T hT X
  obtain ⟨fs, hret, hrun, hended, hW, hframe⟩ := X.leave (v := some (.int 1)) (hlocks := hlocks) (fun h => by rw [hr] at h; cases h)
  have hmeth' : T.vm.method? m = some meth := X.method'
  refine ⟨T.setFrames fs, ?_, .returned (some (.int 1)), hrun, hended, rfl, ⟨_, rfl⟩, hW, hframe⟩
  jvm_step X.here [X.here.top, hx, hb, hdg, hmeth', hr, ret, narrow_b1]
  (try refine ⟨rfl, ?_⟩); (try refine ⟨rfl, ?_⟩)
  first | (intro acts; rw [hret _ acts rfl rfl rfl]) | rw [hret _ _ rfl rfl rfl]
  exact Steps.refl _
/-- what holds at the law's entry: the machine, the code, the tables' words (any of lw_tbl by 'hts w (by decide +kernel)'), the script of L ints xs at the cell b, what the Statement gives of the start (any of its parts by flat_of_before) -/
def lw_At (p : Program) (s : State) (m : MethodId) (meth : Method) (c : Code) (b L : Nat) (xs : Nat → Int32) : Prop :=
  p.tables.exec = Jvm.exec ∧ c.code = code ∧ meth.sig.returnType = ret ∧ c.maxLocals = 4 ∧ s.vm.findClass R_law = some m.cls ∧ (∀ w ∈ lw_tbl, w.before #[Value.ref b] s = true) ∧ va_X b L xs s s.heap ∧ b < s.heap.size ∧ meth.locks = false ∧ (Jvm.Cond.and given_1 narrow_1).before #[Value.ref b] s = true
set_option maxHeartbeats 8000000 in
set_option maxRecDepth 100000 in
/-- the law from its entry, over the rule for 'new long[4][5]' -/
theorem whole_open (mna : Mna) {p : Program} {e : Env} {s : State} {m : MethodId} {below : List Frame} {meth : Method} {c : Code} (l : Launch) {b L : Nat} {xs : Nat → Int32} (hL : L ≤ 2560) (C0 : lw_At p s m meth c b L xs) : W p l e room_1 s m #[Value.ref b] below meth c s.heap [] 0 0 (lw_Z below #[Value.ref b] s) (entryFrame m ([Value.ref b] : List Value).toArray 4) := by
  obtain ⟨hx, hb, hr, hml, hown, hts, hX, hbl, hlocks, hgv⟩ := id C0
  have hg := flat_of_before _ hgv
  have htg : ∀ w ∈ lw_g, w.before #[Value.ref b] s = true := fun w hw => hts w (List.mem_filter.mp hw).1
  obtain ⟨c0, i0, k0⟩ := u_known (C := RX0) (T := TX0) (N := 8) (n := 8) htg (by decide +kernel) (hts (.instantiable RX0 8) (by decide +kernel))
  obtain ⟨c1, i1, k1⟩ := u_known (C := RX1) (T := TX1) (N := 4) (n := 4) htg (by decide +kernel) (hts (.instantiable RX1 4) (by decide +kernel))
  obtain ⟨c2, i2, k2⟩ := u_known (C := RX2) (T := TX2) (N := 4) (n := 4) htg (by decide +kernel) (hts (.instantiable RX2 4) (by decide +kernel))
  obtain ⟨c3, i3, k3⟩ := u_known (C := RX3) (T := TX3) (N := 6) (n := 6) htg (by decide +kernel) (hts (.instantiable RX3 6) (by decide +kernel))
  obtain ⟨c4, i4, k4⟩ := u_known (C := RX4) (T := TX4) (N := 2) (n := 2) htg (by decide +kernel) (hts (.instantiable RX4 2) (by decide +kernel))
  obtain ⟨c5, i5, k5⟩ := u_known (C := RX5) (T := TX5) (N := 5) (n := 5) htg (by decide +kernel) (hts (.instantiable RX5 5) (by decide +kernel))
  obtain ⟨c6, i6, k6⟩ := u_known (C := RX6) (T := TX6) (N := 21) (n := 21) htg (by decide +kernel) (hts (.instantiable RX6 21) (by decide +kernel))
  obtain ⟨dC, dI, hKc⟩ : ∃ (dC : Nat → ClassId) (dI : Nat → Nat → Nat), ∀ (k : Nat) (q : vw_C), vwCl[k]? = some q → u_Kn s q.1 q.2.1 q.2.2 (dC k) (dI k) := by
    refine ⟨fun k => match k with | 0 => c0 | 1 => c1 | 2 => c2 | 3 => c3 | 4 => c4 | 5 => c5 | _ => c6, fun k => match k with | 0 => i0 | 1 => i1 | 2 => i2 | 3 => i3 | 4 => i4 | 5 => i5 | _ => i6, ?_⟩
    intro k q hq
    match k, hq with
    | 0, hq => cases hq; exact k0
    | 1, hq => cases hq; exact k1
    | 2, hq => cases hq; exact k2
    | 3, hq => cases hq; exact k3
    | 4, hq => cases hq; exact k4
    | 5, hq => cases hq; exact k5
    | 6, hq => cases hq; exact k6
    | k + 7, hq => simp [vwCl] at hq
  obtain ⟨cI, kI, pI1, a1, a2, a3⟩ := Cond.arrayClass_spec (hts (.arrayClass .int) (by decide +kernel))
  obtain ⟨cL, kL, pL1, b1, b2, b3⟩ := Cond.arrayClass_spec (hts (.arrayClass .long) (by decide +kernel))
  obtain ⟨comp, cR, kR, e1, e2, e3, e4, e5⟩ := arrayOverA_spec (hts (.arrayOver (.array .long)) (by decide +kernel))
  have hK : va_K (dC, dI) vwCl (tys (cI, cL, cR)) s := by
    refine ⟨hKc, fun k q hq => ?_⟩
    match k, hq with
    | 0, hq => cases hq; exact ⟨fun n z => ⟨fun k h => (by cases h), kI, a2, pI1, a3⟩, a1⟩
    | 1, hq => cases hq; exact ⟨fun n z => ⟨fun k h => (by cases h), kL, b2, pL1, b3⟩, b1⟩
    | 2, hq => cases hq; exact ⟨fun n z => ⟨fun k h => (by cases h), kR, e3, comp, e4⟩, e5⟩
    | k + 3, hq => simp [tys] at hq
  obtain ⟨t, t1, t2⟩ := va_Tof (tm := .static "RollPlanner" "STEP" "[I") (N := 5) (f := stV) (A := fun q : Nat => s.heap.size ≤ q) (by decide) (hg (.arrayOf (.static "RollPlanner" "STEP" "[I") .int) (by decide +kernel)) (va_eqt (z := 5) (hg (.eq (.length (.static "RollPlanner" "STEP" "[I")) (.int 5)) (by decide +kernel))) (fun j hj => by
    match j, hj with
    | 0, _ => exact va_eqt (z := 1) (hg (.eq (.elem (.static "RollPlanner" "STEP" "[I") (.int 0)) (.int 1)) (by decide +kernel))
    | 1, _ => exact va_eqt (z := 7) (hg (.eq (.elem (.static "RollPlanner" "STEP" "[I") (.int 1)) (.int 7)) (by decide +kernel))
    | 2, _ => exact va_eqt (z := 49) (hg (.eq (.elem (.static "RollPlanner" "STEP" "[I") (.int 2)) (.int 49)) (by decide +kernel))
    | 3, _ => exact va_eqt (z := 343) (hg (.eq (.elem (.static "RollPlanner" "STEP" "[I") (.int 3)) (.int 343)) (by decide +kernel))
    | 4, _ => exact va_eqt (z := 2401) (hg (.eq (.elem (.static "RollPlanner" "STEP" "[I") (.int 4)) (.int 2401)) (by decide +kernel))) (fun a ha => Nat.not_le.mpr ha)
  have hZ : va_Z RX5 "STEP" "[I" (.ref t) (fun q : Nat => s.heap.size ≤ q) s s.heap := va_Zof (hts (.laysStatic RX5 "STEP" "[I") (by decide +kernel)) (hts (.initialized RX5) (by decide +kernel)) t1 (fun a ha => Nat.not_le.mpr ha)
  have hNW : NW s := ⟨va_Nw.of rfl (hts (.fieldLinkNest RX3 67 RX5 "STEP" "[I" RX5) (by decide +kernel)), va_Nw.of rfl (hts (.fieldLinkNest RX4 9 RX5 "STEP" "[I" RX5) (by decide +kernel)), va_Nw.of rfl (hts (.methodLinkNest RX3 57 yX5_codeOf RX5) (by decide +kernel))⟩
  have hNA : NA s := ⟨va_Nw.of rfl (hts (.methodLinkNest RX5 9 yX1_init RX5) (by decide +kernel)), over_moved (Vm.Alike.refl s.vm) (hts (.arrayOver (.array .long)) (by decide +kernel))⟩
  have hP : va_P (dC, dI) vwCl [] s.heap := fun k q h => by simp at h
  have hD : va_D (fun q : Nat => s.heap.size ≤ q) [] := ⟨fun i j p q h => by simp at h, fun k q h => by simp at h⟩
  have hl := lv_entry ([.ref b]) (n := 4) (Nat.le_of_ble_eq_true rfl)
  rw [lg_entry_eq]
  generalize (lg_sl ([.ref b]) ++ List.replicate (4 - (lg_sl ([.ref b])).length) Slot.unset).toArray = ls at hl ⊢
  have hl : lv_has ls 4 [(0, .ref b)] := hl
  obtain ⟨X, hXe⟩ : ∃ X : MX, X = (p, l, e, room_1, s, m, #[Value.ref b], below, meth, c, (dC, dI), (cI, cL, cR), (fun k => if k = 1000 then t else if k = 1001 then b else 0), (fun q : Nat => s.heap.size ≤ q), 0, 0, lw_Z below #[Value.ref b] s) := ⟨_, rfl⟩
  have C : Cx RL cL_law 4 (some .boolean) 6 X := by
    subst hXe
    exact ⟨hx, hb, hr, hml, hown, htg, hK, fun q hq => hq, hlocks, ⟨Nat.le_of_ble_eq_true rfl, Nat.le_of_ble_eq_true rfl, Nat.zero_le _, Nat.zero_le _⟩, hZ, t2, hNW⟩
  have S : LSt X X 0 0 := by
    subst hXe
    exact ⟨C, ⟨by show 0 + 600000 ≤ 600000; omega, by show 0 + 7302250 ≤ 7302250; omega⟩, hNA, Gr.rf⟩
  have hS : SX L xs X := by
    subst hXe
    exact ⟨hX, hbl, Nat.not_le.mpr hbl⟩
  have fin : ∀ X', LSt X X' 33 6258 → ∀ h lv, V 4 X' h 441 lv [.int 1] := by
    subst hXe
    rintro X' ⟨_, _, _, as', g, rfl⟩ h lv H locs ls2 hP2 hD2 hS2 hl2
    refine va_forget (fun q hq => hS2.2.2 q hq) ?_
    refine W.widen (k := 600000) (n := 7302250) (Nat.le_of_ble_eq_true rfl) (Nat.le_of_ble_eq_true rfl) ?_
    exact lw_ret hx hb hr hlocks dL_law_441
  have K := law_begin mna hL C S hS fin
  subst hXe
  exact K s.heap [] ls hP hD va_S.rf hl
