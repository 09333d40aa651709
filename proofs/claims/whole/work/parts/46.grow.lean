/-! making cells: a picture that grows; the new label is the list's length, its address is the map's new value -/
def AgA (n : Nat) (as as' : Nat → Nat) : Prop := ∀ k, k < n ∨ 1000 ≤ k → as' k = as k
theorem AgA.trans {n m : Nat} {a b c : Nat → Nat} (h1 : AgA n a b) (h2 : AgA m b c) (h : n ≤ m) : AgA n a c := fun k hk => by rw [h2 k (by omega), h1 k hk]
def upa (as : Nat → Nat) (n q : Nat) : Nat → Nat := fun k => if k = n then q else as k
theorem upa_ag {as : Nat → Nat} {n q : Nat} (h : n < 1000) : AgA n as (upa as n q) := fun k hk => by
  show (if k = n then q else as k) = as k
  rw [if_neg (by omega)]
def okV (n : Nat) (v : Value) : Bool := match v with
  | .ref k => Nat.blt k n || Nat.ble 1000 k
  | _ => true
theorem tV_ag {n : Nat} {as as' : Nat → Nat} (h : AgA n as as') {v : Value} (hv : okV n v = true) : tV as' v = tV as v := by
  cases v with
  | ref k =>
    have hv : (Nat.blt k n || Nat.ble 1000 k) = true := hv
    show Value.ref (as' k) = Value.ref (as k)
    rw [h k]
    rcases Bool.or_eq_true_iff.mp hv with e | e
    · exact Or.inl (Nat.le_of_ble_eq_true e)
    · exact Or.inr (Nat.le_of_ble_eq_true e)
  | _ => rfl
def okS (n : Nat) (st : List Value) : Bool := st.all (okV n)
def okL (n : Nat) (lv : List (Nat × Value)) : Bool := lv.all (fun q => okV n q.2)
theorem tS_ag {n : Nat} {as as' : Nat → Nat} (h : AgA n as as') {st : List Value} (hv : okS n st = true) : st.map (tV as') = st.map (tV as) :=
  List.map_congr_left (fun v hm => tV_ag h (List.all_eq_true.mp hv v hm))
theorem tL_ag {n : Nat} {as as' : Nat → Nat} (h : AgA n as as') {lv : List (Nat × Value)} (hv : okL n lv = true) : tL as' lv = tL as lv :=
  List.map_congr_left (fun q hm => by show (q.1, tV as' q.2) = (q.1, tV as q.2); rw [tV_ag h (List.all_eq_true.mp hv q hm)])
def okC (n : Nat) (c : PC) : Prop := match c with
  | .inl _ => True
  | .inr (.inl _) => True
  | .inr (.inr (.inl q)) => ∀ i k, q.2 i = some k → k < n
  | .inr (.inr (.inr q)) => okS n q.2 = true
def okH (n : Nat) : List PC → Prop
  | [] => True
  | c :: t => okC n c ∧ okH n t
theorem okH_at {n : Nat} : ∀ {h : List PC} {k : Nat} {c : PC}, okH n h → h[k]? = some c → okC n c
  | [], k, c, _, e => by simp at e
  | x :: t, 0, c, ho, e => by
    have e : some x = some c := e
    cases e
    exact ho.1
  | x :: t, k + 1, c, ho, e => okH_at (h := t) (k := k) ho.2 e
theorem tC_ag {n : Nat} {K : CK} {as as' : Nat → Nat} (h : AgA n as as') {c : PC} (hc : okC n c) : tC K as' c = tC K as c := by
  rcases c with q | q | q | q
  · rfl
  · rfl
  · have hc : ∀ i k, q.2 i = some k → k < n := hc
    show (Sum.inl (K.2.2, q.1, .inr (.inr (.inr (.inr (fun i => (q.2 i).map as'))))) : va_E) = Sum.inl (K.2.2, q.1, .inr (.inr (.inr (.inr (fun i => (q.2 i).map as)))))
    have e : (fun i => (q.2 i).map as') = fun i => (q.2 i).map as := by
      funext i
      cases e : q.2 i with
      | none => rfl
      | some k =>
        show some (as' k) = some (as k)
        rw [h k (Or.inl (hc i k e))]
    rw [e]
  · show (Sum.inr (q.1, q.2.map (tV as')) : va_E) = Sum.inr (q.1, q.2.map (tV as))
    rw [tS_ag h hc]
theorem tH_ag {n : Nat} {K : CK} {as as' : Nat → Nat} (h : AgA n as as') {hp : List PC} (hl : hp.length ≤ n) (ho : okH n hp) : tH K as' hp = tH K as hp := by
  apply List.ext_getElem?
  intro k
  rw [tH_get, tH_get]
  cases e : hp[k]? with
  | none => rfl
  | some c =>
    have hk : k < hp.length := (List.getElem?_eq_some_iff.mp e).1
    show some (as' k, tC K as' c) = some (as k, tC K as c)
    rw [h k (Or.inl (by omega)), tC_ag h (okH_at ho e)]
theorem tH_app {K : CK} {as : Nat → Nat} {hp : List PC} {c : PC} : tH K as (hp ++ [c]) = tH K as hp ++ [(as hp.length, tC K as c)] := by
  simp [tH, List.mapIdx_append]
def Xp (X : MX) (as : Nat → Nat) (dc ds : Nat) : MX := (xp X, xl X, xe X, xR X, xs X, xm X, xa X, xb X, xM X, xc X, xD X, xK X, as, xA X, xcl X + dc, xsl X + ds, xQ X)
/-- X' stands where X stood, with dc cells and ds slots more -/
def Gr (X X' : MX) (dc ds n : Nat) : Prop := ∃ as', AgA n (xas X) as' ∧ X' = Xp X as' dc ds
theorem Gr.rf {X : MX} {n : Nat} : Gr X X 0 0 n := ⟨xas X, fun _ _ => rfl, rfl⟩
theorem Gr.trans {X X' X'' : MX} {a b a' b' n m : Nat} (h1 : Gr X X' a b n) (h2 : Gr X' X'' a' b' m) (h : n ≤ m) : Gr X X'' (a + a') (b + b') n := by
  obtain ⟨as1, g1, rfl⟩ := h1
  obtain ⟨as2, g2, rfl⟩ := h2
  refine ⟨as2, AgA.trans g1 g2 h, ?_⟩
  show (xp X, xl X, xe X, xR X, xs X, xm X, xa X, xb X, xM X, xc X, xD X, xK X, as2, xA X, xcl X + a + a', xsl X + b + b', xQ X) = (xp X, xl X, xe X, xR X, xs X, xm X, xa X, xb X, xM X, xc X, xD X, xK X, as2, xA X, xcl X + (a + a'), xsl X + (b + b'), xQ X)
  rw [Nat.add_assoc, Nat.add_assoc]
theorem Gr.to {X X' : MX} {a b a' b' n : Nat} (h : Gr X X' a b n) (e1 : a = a') (e2 : b = b') : Gr X X' a' b' n := by subst e1; subst e2; exact h
theorem cx_gr {own : String} {cc : ByteArray} {nL : Nat} {ret : Option FieldType} {d : Nat} {X X' : MX} {dc ds n : Nat} (C : Cx own cc nL ret d X) (G : Gr X X' dc ds n) (hr : xcl X + dc ≤ (xR X).cells ∧ xsl X + ds ≤ (xR X).slots) : Cx own cc nL ret d X' := by
  obtain ⟨as', g, rfl⟩ := G
  obtain ⟨c1, c2, c3, c4, c5, c6, c7, c8, c9, ⟨c10, c11, _, _⟩, c12, c13, c14⟩ := C
  have e : as' 1000 = xas X 1000 := g 1000 (Or.inr (Nat.le_refl _))
  refine ⟨c1, c2, c3, c4, c5, c6, c7, c8, c9, ⟨c10, c11, hr.1, hr.2⟩, ?_, ?_, c14⟩
  · show va_Z RX5 "STEP" "[I" (.ref (as' 1000)) (xA X) (xs X) (xs X).heap
    rw [e]; exact c12
  · show va_T .int (as' 1000) 5 stV (xA X) (xs X) (xs X).heap
    rw [e]; exact c13
section NEWS
variable {own : String} {cc : ByteArray} {nL : Nat} {ret : Option FieldType} {d : Nat} {X : MX} {h : List PC} {pc : Nat} {lv : List (Nat × Value)} {st : List Value}
/-- the picture behind a making -/
theorem v_grown {c : PC} {q dc ds pc' : Nat} {e : va_E} {H1 : Heap} {locs : List Loc} {ls : Array Slot} (hl : h.length < 1000) (oh : okH h.length h) (ol : okL h.length lv = true) (os : okS h.length st = true) (oc : okC h.length c) (he : tC (xK X) (xas X) c = e)
    (kk : ∀ X', Gr X X' dc ds h.length → V nL X' (h ++ [c]) pc' lv (.ref h.length :: st)) (hP : va_P (xD X) vwCl (tH (xK X) (xas X) h ++ [(q, e)]) H1) (hD : va_D (xA X) (tH (xK X) (xas X) h ++ [(q, e)])) (hS : va_S (xA X) (xs X).heap H1 locs) (hv : lv_has ls nL (tL (xas X) lv)) :
    W (xp X) (xl X) (xe X) (xR X) (xs X) (xm X) (xa X) (xb X) (xM X) (xc X) H1 locs (xcl X + dc) (xsl X + ds) (xQ X) (F0 (xm X) pc' ls (.ref q :: st.map (tV (xas X)))) := by
  have g : AgA h.length (xas X) (upa (xas X) h.length q) := upa_ag hl
  have e1 : tH (xK X) (upa (xas X) h.length q) (h ++ [c]) = tH (xK X) (xas X) h ++ [(q, e)] := by
    rw [tH_app, tH_ag g (Nat.le_refl _) oh, tC_ag g oc, he]
    show _ ++ [((if h.length = h.length then q else _), e)] = _
    rw [if_pos rfl]
  have e2 : (Value.ref h.length :: st).map (tV (upa (xas X) h.length q)) = .ref q :: st.map (tV (xas X)) := by
    rw [List.map_cons, tS_ag g os]
    show Value.ref (if h.length = h.length then q else _) :: _ = _
    rw [if_pos rfl]
  have := kk (Xp X (upa (xas X) h.length q) dc ds) ⟨_, g, rfl⟩ H1 locs ls (by show va_P (xD X) vwCl (tH (xK X) (upa (xas X) h.length q) (h ++ [c])) H1; rw [e1]; exact hP) (by show va_D (xA X) (tH (xK X) (upa (xas X) h.length q) (h ++ [c])); rw [e1]; exact hD) hS (by show lv_has ls nL (tL (upa (xas X) h.length q) lv); rw [tL_ag g ol]; exact hv)
  have this : W (xp X) (xl X) (xe X) (xR X) (xs X) (xm X) (xa X) (xb X) (xM X) (xc X) H1 locs (xcl X + dc) (xsl X + ds) (xQ X) (F0 (xm X) pc' ls ((Value.ref h.length :: st).map (tV (upa (xas X) h.length q)))) := this
  rw [e2] at this
  exact this
theorem v_newI (C : Cx own cc nL ret d X) (N : Nat) {n : Int32} (hd : decode cc pc = .ok (.newarray .int, 2)) (hn : n = nI N) (hN : N ≤ 10000) (hw : Cond.arrayClass .int ∈ lw_g) (hr : xcl X + 1 ≤ (xR X).cells ∧ xsl X + N ≤ (xR X).slots) (hl : h.length < 1000) (oh : okH h.length h) (ol : okL h.length lv = true) (os : okS h.length st = true)
    (kk : ∀ X', Gr X X' 1 N h.length → V nL X' (h ++ [pI N (fun _ => 0)]) (pc + 2) lv (.ref h.length :: st)) : V nL X h pc lv (.int n :: st) := fun H locs ls hP hD hS hv => by
  subst hn
  have hK := C.2.2.2.2.2.2.1
  refine va_newa (atype := .int) (D := xD X) (ty := .int) (a0 := (N, .inl (fun _ => 0))) C.1 C.2.1 (C.2.2.2.2.2.1 _ hw) rfl hK hP hD hS C.2.2.2.2.2.2.2.1 (fun cA => rfl) (nI_pos (by omega)) (nI_clamp (by omega)) (by show N * 4 ≤ _; omega) hr.1 hr.2 hd (fun q cA H1 hK1 hP1 hD1 hS1 => ?_)
  have e : cA = (xK X).1 := by
    have a1 : (xs X).vm.findClass ("[" ++ FieldType.int.toString) = some cA := (hK1.2 3 (cA, .int) rfl).2
    have a2 : (xs X).vm.findClass ("[" ++ FieldType.int.toString) = some (xK X).1 := (hK.2 0 ((xK X).1, .int) rfl).2
    exact Option.some.inj (a1.symm.trans a2)
  subst e
  exact v_grown (c := pI N (fun _ => 0)) hl oh ol os trivial rfl kk hP1 hD1 hS1 hv
theorem v_newL (C : Cx own cc nL ret d X) (N : Nat) {n : Int32} (hd : decode cc pc = .ok (.newarray .long, 2)) (hn : n = nI N) (hN : N ≤ 10000) (hw : Cond.arrayClass .long ∈ lw_g) (hr : xcl X + 1 ≤ (xR X).cells ∧ xsl X + N ≤ (xR X).slots) (hl : h.length < 1000) (oh : okH h.length h) (ol : okL h.length lv = true) (os : okS h.length st = true)
    (kk : ∀ X', Gr X X' 1 N h.length → V nL X' (h ++ [pL N (fun _ => 0)]) (pc + 2) lv (.ref h.length :: st)) : V nL X h pc lv (.int n :: st) := fun H locs ls hP hD hS hv => by
  subst hn
  have hK := C.2.2.2.2.2.2.1
  refine va_newa (atype := .long) (D := xD X) (ty := .long) (a0 := (N, .inr (.inl (fun _ => 0)))) C.1 C.2.1 (C.2.2.2.2.2.1 _ hw) rfl hK hP hD hS C.2.2.2.2.2.2.2.1 (fun cA => rfl) (nI_pos (by omega)) (nI_clamp (by omega)) (by show N * 8 ≤ _; omega) hr.1 hr.2 hd (fun q cA H1 hK1 hP1 hD1 hS1 => ?_)
  have e : cA = (xK X).2.1 := by
    have a1 : (xs X).vm.findClass ("[" ++ FieldType.long.toString) = some cA := (hK1.2 3 (cA, .long) rfl).2
    have a2 : (xs X).vm.findClass ("[" ++ FieldType.long.toString) = some (xK X).2.1 := (hK.2 1 ((xK X).2.1, .long) rfl).2
    exact Option.some.inj (a1.symm.trans a2)
  subst e
  exact v_grown (c := pL N (fun _ => 0)) hl oh ol os trivial rfl kk hP1 hD1 hS1 hv
/-- what 'new' needs of a class -/
def NC (own : String) (idx ci : Nat) (fs : List Value) : Prop := ∃ (Cn : String) (T : u_T) (N : Nat) (ty0 : Nat → FieldType), vwCl[ci]? = some (Cn, T, N) ∧ (∀ w ∈ u_ws Cn T N, w ∈ lw_g) ∧ (∀ k, k < N → parseFieldDescriptor (T k).2.2.1 = some (ty0 k)) ∧ (Cond.classLink own idx Cn ∈ lw_g ∧ Cond.instantiable Cn N ∈ lw_g ∧ Cond.initialized Cn ∈ lw_g) ∧ (∀ (as : Nat → Nat) (j : Nat), j < N → defaultValue (ty0 j) = vp_V (fs.map (tV as)) j) ∧ fs.length = N
theorem v_new (C : Cx own cc nL ret d X) {idx ci : Nat} {fs : List Value} (hd : decode cc pc = .ok (.new idx, 3)) (hf : NC own idx ci fs) (hr : xcl X + 1 ≤ (xR X).cells ∧ xsl X + fs.length ≤ (xR X).slots) (hl : h.length < 1000) (oh : okH h.length h) (ol : okL h.length lv = true) (os : okS h.length st = true) (oc : okS h.length fs = true)
    (kk : ∀ X', Gr X X' 1 fs.length h.length → V nL X' (h ++ [pO ci fs]) (pc + 3) lv (.ref h.length :: st)) : V nL X h pc lv st := fun H locs ls hP hD hS hv => by
  obtain ⟨Cn, T, N, ty0, h1, h2, h3, ⟨w1, w2, w3⟩, h5, h6⟩ := hf
  have hts := C.2.2.2.2.2.1
  rw [h6] at hr kk
  refine va_new (D := xD X) (ci := ci) (fs := fs.map (tV (xas X))) (C := Cn) (T := T) (N := N) C.1 C.2.1 hts h2 ty0 h3 C.2.2.2.2.1 (hts _ w1) (hts _ w2) (hts _ w3) C.2.2.2.2.2.2.1 hP hD hS C.2.2.2.2.2.2.2.1 h1 (h5 _) hr.1 hr.2 hd (fun q H1 hP1 hD1 hS1 => ?_)
  exact v_grown (c := pO ci fs) hl oh ol os oc rfl kk hP1 hD1 hS1 hv
theorem v_obj (C : Cx own cc nL ret d X) {idx k : Nat} (hd : decode cc pc = .ok (.invokespecial idx, 3)) (hw : Cond.methodLink own idx objectInit ∈ lw_g ∧ Cond.instanceMethod objectInit ∈ lw_g ∧ Cond.code objectInit ⟨#[0xb1]⟩ 1 none ∈ lw_g) (h1 : 1 ≤ d) (hs : (st.map fun v => v.category).sum ≤ 8) (kk : V nL X h (pc + 3) lv st) : V nL X h pc lv (.ref k :: st) := fun H locs ls hP hD hS hv => by
  have hts := C.2.2.2.2.2.1
  have hR := C.2.2.2.2.2.2.2.2.2.1
  have e : ((st.map (tV (xas X))).map fun v => v.category) = st.map fun v => v.category := by
    rw [List.map_map]
    exact List.map_congr_left (fun v _ => tV_cat _ v)
  refine W.objInit C.1 C.2.1 C.2.2.2.2.1 (hts _ hw.1) (hts _ hw.2.1) (hts _ hw.2.2) rfl (by rw [C.2.2.2.1]; exact hv.1) rfl hd (Nat.le_trans h1 hR.1) (by show 2 * 0 + ((st.map (tV (xas X))).map fun v => v.category).sum + 12 ≤ _; rw [e]; have := hR.2.1; omega) (kk H locs ls hP hD hS hv)
/-- a final field, in its constructor -/
def FF (own : String) (idx ci j : Nat) (ty : FieldType) : Prop := ∃ (Cn : String) (T : u_T) (N : Nat) (ty0 : Nat → FieldType), vwCl[ci]? = some (Cn, T, N) ∧ j < N ∧ Cond.fieldLink own idx (T j).1 (T j).2.1 (T j).2.2.1 ∈ lw_g ∧ (∀ w ∈ u_ws Cn T N, w ∈ lw_g) ∧ (∀ k, k < N → parseFieldDescriptor (T k).2.2.1 = some (ty0 k)) ∧ (∀ a, a < N → ∀ b, b < N → a ≠ b → (T a).2.1 ≠ (T b).2.1) ∧ (T j).2.2.2 = true ∧ (T j).1 = own ∧ parseFieldDescriptor (T j).2.2.1 = some ty
theorem v_putF (C : Cx own cc nL ret d X) (hm : (xM X).name = "<init>") {k idx ci j x : Nat} {fs : List Value} {ty : FieldType} (hd : decode cc pc = .ok (.putfield idx, 3)) (hf : FF own idx ci j ty) (ho : h[k]? = some (pO ci fs)) (hn : ∀ y : Nat, narrow ty (.ref y) = .ref y) (hfit : ∀ y : Nat, fits ty (.ref y) = true) (hlen : j < fs.length) (kk : V nL X (h.set k (pO ci (fs.set j (.ref x)))) (pc + 3) lv st) : V nL X h pc lv (.ref x :: .ref k :: st) := fun H locs ls hP hD hS hl => by
  obtain ⟨Cn, T, N, ty0, h1, h2, h3, h4, h5, h6, h7, h9, h8⟩ := hf
  refine va_putF (D := xD X) (ci := ci) (v := .ref (xas X x)) (ty := ty) (C := Cn) (T := T) (N := N) C.1 C.2.1 C.2.2.2.2.2.1 h4 ty0 h5 h6 C.2.2.2.2.1 C.2.2.2.2.2.2.1 hP hD hS k (tH_at ho) h1 j h2 (C.2.2.2.2.2.1 _ h3) (fun _ q => q) h7 hm h9 h8 (hn _) (hfit _) (by rw [List.length_map]; exact hlen) hd (fun H1 locs1 hP1 hD1 hS1 => ?_)
  have e : (tH (xK X) (xas X) h).set k (xas X k, .inr (ci, (fs.map (tV (xas X))).set j (.ref (xas X x)))) = tH (xK X) (xas X) (h.set k (pO ci (fs.set j (.ref x)))) := by
    rw [← tH_set]
    show _ = List.set _ k (xas X k, (Sum.inr (ci, (fs.set j (.ref x)).map (tV (xas X))) : va_E))
    rw [List.map_set]
    rfl
  rw [e] at hP1 hD1
  exact kk H1 locs1 ls hP1 hD1 hS1 hl
end NEWS
/-! contracts of constructors -/
def NA (U : State) : Prop := va_Nw (.methodLinkNest RX5 9 yX1_init RX5) U ∧ va_Nw (.arrayOver (.array .long)) U
theorem NA.warm {s U : State} (hW : s.WarmedH U.vm) (h : NA s) : NA U := ⟨h.1.warmM hW, over_moved hW.alike h.2⟩
def rmA (d mc ms : Nat) : Room := { frames := d, cells := mc, slots := ms, locals := 40 * d }
def PreA (D : va_G) (K : CK) (as : Nat → Nat) (sz : Nat) (h : List PC) (U : State) : Prop := PreB D K as sz h U ∧ NA U
def QA (D : va_G) (K : CK) (as : Nat → Nat) (A : Nat → Prop) (n : Nat) (Post : List PC → Prop) : Array Value → State → Outcome → State → Prop := fun _ st oc t =>
  (∃ (h' : List PC) (as' : Nat → Nat), oc = .returned none ∧ AgA n as as' ∧ Post h' ∧ va_P D vwCl (tH K as' h') t.heap ∧ va_K D vwCl (tys K) t ∧ va_D A (tH K as' h')) ∧ va_F A st t
def ConA (y : MethodName) (bytes : ByteArray) (maxL d mc ms : Nat) (av : List Value) (h : List PC) (Post : List PC → Prop) : Prop :=
  ∀ (l : Launch) (D : va_G) (K : CK) (as : Nat → Nat) (sz : Nat), Met l y (Cond.code y bytes maxL none :: lw_g) (rmA d mc ms) (va_Pc (av.map (tV as)) (PreA D K as sz h)) (QA D K as (va_A (tH K as h) sz) h.length Post) mc ms (va_A (tH K as h) sz)
/-- what a constructor's start is -/
def EA (n mc ms : Nat) (Post : List PC → Prop) (X : MX) : Prop := xQ X = MQ (xb X) (QA (xD X) (xK X) (xas X) (xA X) n Post) (xa X) (xs X) (xcl X + mc) (xsl X + ms) (xA X) ∧ (xcl X + mc ≤ (xR X).cells ∧ xsl X + ms ≤ (xR X).slots) ∧ (xM X).name = "<init>" ∧ NA (xs X)
theorem con_ofA {y : MethodName} {bytes : ByteArray} {maxL d mc ms : Nat} {av : List Value} {h : List PC} {Post : List PC → Prop} (lv : List (Nat × Value)) (hy : plainName y.cls = true) (hyn : y.name = "<init>") (hsl : ∀ as : Nat → Nat, (lg_sl (av.map (tV as))).length ≤ maxL) (hlv : ∀ as : Nat → Nat, lv_args 0 (av.map (tV as)) = tL as lv)
    (body : ∀ X : MX, Cx y.cls bytes maxL none d X → EA h.length mc ms Post X → V maxL X h 0 lv []) : ConA y bytes maxL d mc ms av h Post := by
  intro l D K as sz
  refine Met.ofW (cc := bytes) (maxL := maxL) (ret := none) hy rfl ?_
  intro p e s m args below meth c s₁ B hml hv
  obtain ⟨rfl, ⟨hsz, hP, hK, hD0, hZ, hT, hN⟩, hNA⟩ := hv
  have hts := atoms_spec (ws := Cond.code y bytes maxL none :: lw_g) B.pre
  have hown : s.vm.findClass y.cls = some m.cls := findClass_of_methodNamed B.named
  have hin : meth.name = "<init>" := (name_of_methodNamed B.named B.method).1.trans hyn
  subst hsz
  have hD := hD0.self (sz := s.heap.size)
  have hl := lv_entry (av.map (tV as)) (n := maxL) (hsl as)
  rw [hlv as] at hl
  rw [lg_entry_eq]
  exact body (p, l, e, rmA d mc ms, s, m, (av.map (tV as)).toArray, below, meth, c, D, K, as, va_A (tH K as h) s.heap.size, 0, 0, MQ below (QA D K as (va_A (tH K as h) s.heap.size) h.length Post) (av.map (tV as)).toArray s mc ms (va_A (tH K as h) s.heap.size))
    ⟨B.exec, B.bytes, B.returns, hml, hown, fun w hw => hts w (List.mem_cons_of_mem _ hw), hK, fun q hq => Or.inr hq, B.notSynchronized, ⟨Nat.le_refl d, Nat.le_refl _, Nat.zero_le _, Nat.zero_le _⟩, hZ, hT, hN⟩ ⟨by rw [Nat.zero_add, Nat.zero_add], ⟨by rw [Nat.zero_add]; exact Nat.le_refl _, by rw [Nat.zero_add]; exact Nat.le_refl _⟩, hin, hNA⟩ s.heap [] _ hP hD va_S.rf hl
section NEWC
variable {own : String} {cc : ByteArray} {nL : Nat} {ret : Option FieldType} {d : Nat} {X : MX} {h : List PC} {pc : Nat} {lv : List (Nat × Value)} {st : List Value}
theorem v_retA {X0 : MX} {n mc ms : Nat} {Post : List PC → Prop} (C : Cx own cc nL none d X) (E : EA n mc ms Post X0) (G : Gr X0 X mc ms n) (hd : decode cc pc = .ok (.return_, 1)) (hp : Post h) : V nL X h pc lv [] := by
  obtain ⟨as', g, rfl⟩ := G
  intro H locs ls hP hD hS hl
  show W (xp X0) (xl X0) (xe X0) (xR X0) (xs X0) (xm X0) (xa X0) (xb X0) (xM X0) (xc X0) H locs (xcl X0 + mc) (xsl X0 + ms) (xQ X0) _
  rw [E.1]
  exact W.vret C.1 C.2.1 C.2.2.1 (fun t ht hW => ⟨⟨h, as', rfl, g, hp, by rw [ht]; exact hP, va_K.moved hW.alike C.2.2.2.2.2.2.1, hD⟩, hS.F ht⟩) hS.2.2 hd C.2.2.2.2.2.2.2.2.1
theorem preA_blind {av : List Value} {D : va_G} {K : CK} {as : Nat → Nat} {sz : Nat} : FrameBlind (va_Pc av (PreA D K as sz h)) := fun a U g mk q => by
  obtain ⟨q0, ⟨q1, qP, qK, qD, qZ, qT, qN⟩, qA⟩ := q
  exact ⟨q0, ⟨q1, qP, va_K.moved (u := U) (U := U.calling g mk a) (Vm.Alike.refl U.vm) qK, qD, va_Z.moved (u := U) (U := U.calling g mk a) (Vm.Alike.refl U.vm) qZ, va_T.moved (u := U) (U := U.calling g mk a) (Vm.Alike.refl U.vm) qT, qN.same (U := U.calling g mk a) rfl⟩, qA.1.same rfl rfl, over_moved (u := U) (E := U.calling g mk a) (Vm.Alike.refl U.vm) qA.2⟩
/-- behind a constructor's call -/
theorem v_behindA (C : Cx own cc nL ret d X) {Post : List PC → Prop} {rest g : List Value} {a : Array Value} {mc ms : Nat} (ol : okL h.length lv = true) (os : okS h.length rest = true)
    (hr : ∀ (H : Heap) (locs : List Loc) (ls : Array Slot), va_P (xD X) vwCl (tH (xK X) (xas X) h) H → va_D (xA X) (tH (xK X) (xas X) h) → va_S (xA X) (xs X).heap H locs → lv_has ls nL (tL (xas X) lv) →
      va_Run (xp X) (xl X) (xe X) (xR X) (xs X) (xm X) (xa X) (xb X) (xM X) (xc X) H locs (xcl X) (xsl X) mc ms (F0 (xm X) pc ls (g.map (tV (xas X)))) (rest.map (tV (xas X))) (QA (xD X) (xK X) (xas X) (va_A (tH (xK X) (xas X) h) H.size) h.length Post a) (va_A (tH (xK X) (xas X) h) H.size))
    (kk : ∀ (X' : MX) (h' : List PC), Gr X X' mc ms h.length → Post h' → V nL X' h' (pc + 3) lv rest) : V nL X h pc lv g := by
  intro H locs ls hP hD hS hl T hT Xs
  have hF : ∀ q, va_A (tH (xK X) (xas X) h) H.size q → xA X q := by
    intro q hq
    rcases hq with ⟨k, e, hk⟩ | hq
    · exact hD.2 k _ hk
    · exact C.2.2.2.2.2.2.2.1 q (Nat.le_trans hS.1 hq)
  obtain ⟨v, st₀, t, T', L, h0, X', hL, e1, e2, ⟨⟨h', as', hv, ag, hp, hP', hK', hD'⟩, hz, hk⟩, step⟩ := hr H locs ls hP hD hS hl T hT Xs
  have hv' : v = none := by
    injection hv
  subst hv'
  rw [h0] at hz hk
  have hD2 : va_D (xA X) (tH (xK X) as' h') := hD'.weaken (fun _ _ _ q => hF _ q)
  have hS2 : va_S (xA X) (xs X).heap T'.heap (locs ++ L) := by
    refine ⟨Nat.le_trans hS.1 (by rw [e1]; exact hz), fun q h1 h2 => ?_, fun q hq => ?_⟩
    · rw [e1, hk q (Nat.lt_of_lt_of_le h1 hS.1) (fun z => h2 (hF q z))]
      exact hS.2.1 q h1 h2
    · rcases List.mem_append.mp hq with h | h
      · exact hS.2.2 q h
      · exact hF _ (hL q h)
  have k1 := kk (Xp X as' mc ms) h' ⟨as', ag, rfl⟩ hp T'.heap (locs ++ L) ls (by rw [e1]; exact hP') hD2 hS2 (by show lv_has ls nL (tL as' lv); rw [tL_ag ag ol]; exact hl)
  obtain ⟨t2, a1, b1⟩ := k1 T' rfl X'
  refine ⟨t2, step t2 ?_, b1⟩
  have e3 : rest.map (tV (xas (Xp X as' mc ms))) = rest.map (tV (xas X)) := tS_ag ag os
  rw [e3] at a1
  exact a1
theorem preA_of (C : Cx own cc nL ret d X) (hA : NA (xs X)) {H : Heap} {locs : List Loc} (hP : va_P (xD X) vwCl (tH (xK X) (xas X) h) H) (hD : va_D (xA X) (tH (xK X) (xas X) h)) (hS : va_S (xA X) (xs X).heap H locs) {U : State} (hU : U.heap = H) (hW : (xs X).WarmedH U.vm) : PreA (xD X) (xK X) (xas X) H.size h U := ⟨preB_of C hP hD hS hU hW, hA.warm hW⟩
def LkI (own : String) (idx : Nat) (y : MethodName) (bytes : ByteArray) (maxL n : Nat) : Prop := (Cond.methodLink own idx y ∈ lw_g ∧ Cond.instanceMethod y ∈ lw_g ∧ Cond.initialized y.cls ∈ lw_g ∧ Cond.code y bytes maxL none ∈ lw_g) ∧ y.name = "<init>" ∧ (y.cls ≠ "java/lang/invoke/MethodHandle" ∧ y.cls ≠ "java/lang/invoke/VarHandle" ∧ (parseMethodDescriptor y.desc).map (fun d => d.parameters.length) = some n) ∧ maxL ≤ 21
theorem v_callI (C : Cx own cc nL ret d X) (hA : NA (xs X)) {idx k n maxL d' mc ms : Nat} {y : MethodName} {bytes : ByteArray} {av : List Value} {Post : List PC → Prop} {stk : List Value} (hd : decode cc pc = .ok (.invokespecial idx, 3)) (hL : LkI own idx y bytes maxL n) (hC : ConA y bytes maxL d' mc ms (.ref k :: av) h Post) (hdd : d' < d) (hr : xcl X + mc ≤ (xR X).cells ∧ xsl X + ms ≤ (xR X).slots) (hn : av.length = n) (hstk : stk = av.reverse ++ .ref k :: st) (hrest : (st.map fun v => v.category).sum ≤ 8) (ol : okL h.length lv = true) (os : okS h.length st = true)
    (kk : ∀ (X' : MX) (h' : List PC), Gr X X' mc ms h.length → Post h' → V nL X' h' (pc + 3) lv st) : V nL X h pc lv stk := by
  obtain ⟨⟨w1, w2, w4, w5⟩, hyn, hds, hmx⟩ := hL
  have hts := C.2.2.2.2.2.1
  have hR := C.2.2.2.2.2.2.2.2.2.1
  refine v_behindA C (rest := st) (a := (Value.ref (xas X k) :: av.map (tV (xas X))).toArray) ol os (fun H locs ls hP hD hS hl => ?_) kk
  have hcb : CallB (xR X) (xs X) (xa X) own idx y bytes maxL none (Cond.code y bytes maxL none :: lw_g) (rmA d' mc ms) mc ms n := callB_of n hts (code_good w5) rfl rfl rfl (hts _ w4) (hts _ w1) hds ⟨Nat.le_trans hdd hR.1, by show 8 + (maxL + 11) + 40 * d' ≤ _; have := hR.2.1; omega⟩
  exact va_runI (As := av.map (tV (xas X))) (b := xas X k) ⟨C.1, C.2.1, C.2.2.2.1, C.2.2.2.2.1, hts⟩ (hC (xl X) (xD X) (xK X) (xas X) H.size) ⟨hcb, hyn, hts _ w2⟩
    ⟨preA_blind, fun U hU hW => ⟨rfl, preA_of C hA hP hD hS hU hW⟩⟩ rfl (by rw [List.length_map]; exact hn) hl.1
    (by rw [hstk]; simp [tV]) (by have e : ((st.map (tV (xas X))).map fun v => v.category) = st.map fun v => v.category := by { rw [List.map_map]; exact List.map_congr_left (fun v _ => tV_cat _ v) }
                                  show 2 * 0 + _ ≤ 8
                                  rw [e]; omega) hd hr
/-- Job's constructor, a nest mate's -/
theorem v_callIN (C : Cx RX5 cc nL ret d X) (hA : NA (xs X)) {k d' mc ms : Nat} {Post : List PC → Prop} (hd : decode cc pc = .ok (.invokespecial 9, 3)) (hw : Cond.instanceMethod yX1_init ∈ lw_g ∧ Cond.initialized yX1_init.cls ∈ lw_g ∧ Cond.code yX1_init cX1_init 1 none ∈ lw_g) (hds : yX1_init.cls ≠ "java/lang/invoke/MethodHandle" ∧ yX1_init.cls ≠ "java/lang/invoke/VarHandle" ∧ (parseMethodDescriptor yX1_init.desc).map (fun d => d.parameters.length) = some 0) (hC : ConA yX1_init cX1_init 1 d' mc ms [.ref k] h Post) (hdd : d' < d) (hr : xcl X + mc ≤ (xR X).cells ∧ xsl X + ms ≤ (xR X).slots) (hrest : (st.map fun v => v.category).sum ≤ 8) (ol : okL h.length lv = true) (os : okS h.length st = true)
    (kk : ∀ (X' : MX) (h' : List PC), Gr X X' mc ms h.length → Post h' → V nL X' h' (pc + 3) lv st) : V nL X h pc lv (.ref k :: st) := by
  obtain ⟨w2, w4, w5⟩ := hw
  have hts := C.2.2.2.2.2.1
  have hR := C.2.2.2.2.2.2.2.2.2.1
  refine v_behindA C (rest := st) (a := (Value.ref (xas X k) :: []).toArray) ol os (fun H locs ls hP hD hS hl => ?_) kk
  have hcb : va_CN (xR X) (xs X) (xa X) RX5 9 yX1_init RX5 cX1_init 1 none (Cond.code yX1_init cX1_init 1 none :: lw_g) (rmA d' mc ms) mc ms 0 := va_cnB 0 hts (code_good w5) rfl rfl rfl hA.1 (hts _ w4) hds ⟨Nat.le_trans hdd hR.1, by show 8 + (1 + 11) + 40 * d' ≤ _; have := hR.2.1; omega⟩
  exact va_runIN (As := []) (b := xas X k) ⟨C.1, C.2.1, C.2.2.2.1, C.2.2.2.2.1, hts⟩ (hC (xl X) (xD X) (xK X) (xas X) H.size) ⟨hcb, rfl, hts _ w2⟩
    ⟨preA_blind, fun U hU hW => ⟨rfl, preA_of C hA hP hD hS hU hW⟩⟩ rfl rfl hl.1
    rfl (by have e : ((st.map (tV (xas X))).map fun v => v.category) = st.map fun v => v.category := by { rw [List.map_map]; exact List.map_congr_left (fun v _ => tV_cat _ v) }
            show 2 * 0 + _ ≤ 8
            rw [e]; omega) hd hr
end NEWC
