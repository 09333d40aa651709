/-! Pictures: a world whose addresses are labels (places in a list of cells); V: the machine, inside a method that makes no cell, comes to its end from a picture. Label 1000 is the static array STEP, 1001 the law's script. -/
def lw_g : List Cond := lw_tbl.filter goodWord
/-- the words on nest mates that the methods which make no cell use -/
def NW (U : State) : Prop := va_Nw (.fieldLinkNest RX3 67 RX5 "STEP" "[I" RX5) U ∧ va_Nw (.fieldLinkNest RX4 9 RX5 "STEP" "[I" RX5) U ∧ va_Nw (.methodLinkNest RX3 57 yX5_codeOf RX5) U
theorem NW.warm {s U : State} (hW : s.WarmedH U.vm) (h : NW s) : NW U := ⟨h.1.warmF hW, h.2.1.warmF hW, h.2.2.warmM hW⟩
theorem NW.same {s U : State} (e : s.vm = U.vm) (h : NW s) : NW U := ⟨h.1.same rfl e, h.2.1.same rfl e, h.2.2.same rfl e⟩
abbrev PC : Type := (Nat × (Nat → Int32)) ⊕ ((Nat × (Nat → Int64)) ⊕ ((Nat × (Nat → Option Nat)) ⊕ (Nat × List Value)))
abbrev pI (n : Nat) (f : Nat → Int32) : PC := .inl (n, f)
abbrev pL (n : Nat) (f : Nat → Int64) : PC := .inr (.inl (n, f))
abbrev pR (n : Nat) (f : Nat → Option Nat) : PC := .inr (.inr (.inl (n, f)))
abbrev pO (ci : Nat) (fs : List Value) : PC := .inr (.inr (.inr (ci, fs)))
abbrev CK : Type := ClassId × ClassId × ClassId
def tV (as : Nat → Nat) (v : Value) : Value := match v with
  | .ref k => .ref (as k)
  | .int x => .int x
  | .long x => .long x
  | .float x => .float x
  | .double x => .double x
  | .null => .null
  | .retAddr x => .retAddr x
def tC (K : CK) (as : Nat → Nat) (c : PC) : va_E := match c with
  | .inl q => .inl (K.1, q.1, .inl q.2)
  | .inr (.inl q) => .inl (K.2.1, q.1, .inr (.inl q.2))
  | .inr (.inr (.inl q)) => .inl (K.2.2, q.1, .inr (.inr (.inr (.inr (fun i => (q.2 i).map as)))))
  | .inr (.inr (.inr q)) => .inr (q.1, q.2.map (tV as))
def tH (K : CK) (as : Nat → Nat) (h : List PC) : va_W := h.mapIdx (fun k c => (as k, tC K as c))
def tL (as : Nat → Nat) (lv : List (Nat × Value)) : List (Nat × Value) := lv.map (fun q => (q.1, tV as q.2))
def tys (K : CK) : List (ClassId × FieldType) := [(K.1, .int), (K.2.1, .long), (K.2.2, .array .long)]
theorem tH_get {K : CK} {as : Nat → Nat} {h : List PC} {k : Nat} : (tH K as h)[k]? = (h[k]?).map (fun c => (as k, tC K as c)) := by
  simp [tH, List.getElem?_mapIdx]
theorem tH_at {K : CK} {as : Nat → Nat} {h : List PC} {k : Nat} {c : PC} (e : h[k]? = some c) : (tH K as h)[k]? = some (as k, tC K as c) := by
  rw [tH_get, e]; rfl
theorem tH_set {K : CK} {as : Nat → Nat} {h : List PC} {k : Nat} {c : PC} : (tH K as h).set k (as k, tC K as c) = tH K as (h.set k c) := by
  apply List.ext_getElem?
  intro i
  rw [tH_get, List.getElem?_set, List.getElem?_set, tH_get]
  by_cases e : k = i
  · subst e
    by_cases hl : k < h.length
    · simp [tH, hl]
    · simp [tH, hl]
  · simp [e]
theorem tV_cat (as : Nat → Nat) (v : Value) : (tV as v).category = v.category := by cases v <;> rfl
/-- the locals of a picture, by place -/
def lvget (lv : List (Nat × Value)) (i : Nat) : Option Value := match lv with
  | [] => none
  | q :: r => bif Nat.beq q.1 i then some q.2 else lvget r i
def lvins (i : Nat) (v : Value) (lv : List (Nat × Value)) : List (Nat × Value) := match lv with
  | [] => [(i, v)]
  | q :: r => bif Nat.blt i q.1 then (i, v) :: q :: r else q :: lvins i v r
def lvp1 (i : Nat) (q : Nat × Value) : Bool := !(q.1 == i) && !(q.1 + 1 == i && q.2.category == 2)
def lvp2 (i : Nat) (q : Nat × Value) : Bool := !(q.1 == i) && (!(q.1 == i + 1) && !(q.1 + 1 == i && q.2.category == 2))
def lvput1 (lv : List (Nat × Value)) (i : Nat) (v : Value) : List (Nat × Value) := lvins i v (lv.filter (lvp1 i))
def lvput2 (lv : List (Nat × Value)) (i : Nat) (v : Value) : List (Nat × Value) := lvins i v (lv.filter (lvp2 i))
def lvkeep (ks : List Nat) (lv : List (Nat × Value)) : List (Nat × Value) := lv.filter (fun q => ks.elem q.1)
theorem lvget_mem {lv : List (Nat × Value)} {i : Nat} {v : Value} (h : lvget lv i = some v) : (i, v) ∈ lv := by
  induction lv with
  | nil => cases h
  | cons q r ih =>
    unfold lvget at h
    cases e : Nat.beq q.1 i with
    | true =>
      rw [e] at h
      have e2 : q.1 = i := Nat.eq_of_beq_eq_true e
      have e3 : q.2 = v := Option.some.inj h
      subst e2; subst e3
      exact List.mem_cons_self
    | false =>
      rw [e] at h
      exact List.mem_cons_of_mem _ (ih h)
theorem lvins_mem {i : Nat} {v : Value} {lv : List (Nat × Value)} {q : Nat × Value} (h : q ∈ lvins i v lv) : q = (i, v) ∨ q ∈ lv := by
  induction lv with
  | nil => exact Or.inl (List.mem_singleton.mp h)
  | cons r l ih =>
    unfold lvins at h
    cases e : Nat.blt i r.1 with
    | true =>
      rw [e] at h
      exact (List.mem_cons.mp h).imp id id
    | false =>
      rw [e] at h
      rcases List.mem_cons.mp h with h | h
      · exact Or.inr (h ▸ List.mem_cons_self)
      · exact (ih h).imp id (List.mem_cons_of_mem _)
theorem lv_look {as : Nat → Nat} {ls : Array Slot} {nL : Nat} {lv : List (Nat × Value)} {i : Nat} {v : Value} (h : lv_has ls nL (tL as lv)) (e : lvget lv i = some v) : ls[i]? = some (.val (tV as v)) :=
  h.2.2 (i, tV as v) (List.mem_map.mpr ⟨(i, v), lvget_mem e, rfl⟩)
theorem lv_fewer {ls : Array Slot} {nL : Nat} {l l' : List (Nat × Value)} (h : lv_has ls nL l) (hs : ∀ q ∈ l', q ∈ l) : lv_has ls nL l' := ⟨h.1, h.2.1, fun q hq => h.2.2 q (hs q hq)⟩
theorem lv_put1 {as : Nat → Nat} {ls : Array Slot} {nL : Nat} {lv : List (Nat × Value)} {i : Nat} {v : Value} (h : lv_has ls nL ((i, tV as v) :: (tL as lv).filter (fun q => !(q.1 == i) && !(q.1 + 1 == i && q.2.category == 2)))) : lv_has ls nL (tL as (lvput1 lv i v)) := by
  refine lv_fewer h fun q hq => ?_
  obtain ⟨r, hr, rfl⟩ := List.mem_map.mp hq
  rcases lvins_mem hr with e | e
  · subst e
    exact List.mem_cons_self
  · obtain ⟨e1, e2⟩ := List.mem_filter.mp e
    refine List.mem_cons_of_mem _ (List.mem_filter.mpr ⟨List.mem_map.mpr ⟨r, e1, rfl⟩, ?_⟩)
    show (!(r.1 == i) && !(r.1 + 1 == i && (tV as r.2).category == 2)) = true
    rw [tV_cat]
    exact e2
theorem lv_put2 {as : Nat → Nat} {ls : Array Slot} {nL : Nat} {lv : List (Nat × Value)} {i : Nat} {v : Value} (h : lv_has ls nL ((i, tV as v) :: (tL as lv).filter (fun q => !(q.1 == i) && (!(q.1 == i + 1) && !(q.1 + 1 == i && q.2.category == 2))))) : lv_has ls nL (tL as (lvput2 lv i v)) := by
  refine lv_fewer h fun q hq => ?_
  obtain ⟨r, hr, rfl⟩ := List.mem_map.mp hq
  rcases lvins_mem hr with e | e
  · subst e
    exact List.mem_cons_self
  · obtain ⟨e1, e2⟩ := List.mem_filter.mp e
    refine List.mem_cons_of_mem _ (List.mem_filter.mpr ⟨List.mem_map.mpr ⟨r, e1, rfl⟩, ?_⟩)
    show (!(r.1 == i) && (!(r.1 == i + 1) && !(r.1 + 1 == i && (tV as r.2).category == 2))) = true
    rw [tV_cat]
    exact e2
/-- the machine around a picture -/
abbrev MX : Type := Program × Launch × Env × Room × State × MethodId × Array Value × List Frame × Method × Code × va_G × CK × (Nat → Nat) × (Nat → Prop) × Nat × Nat × (State → Prop)
abbrev xp (X : MX) : Program := X.1
abbrev xl (X : MX) : Launch := X.2.1
abbrev xe (X : MX) : Env := X.2.2.1
abbrev xR (X : MX) : Room := X.2.2.2.1
abbrev xs (X : MX) : State := X.2.2.2.2.1
abbrev xm (X : MX) : MethodId := X.2.2.2.2.2.1
abbrev xa (X : MX) : Array Value := X.2.2.2.2.2.2.1
abbrev xb (X : MX) : List Frame := X.2.2.2.2.2.2.2.1
abbrev xM (X : MX) : Method := X.2.2.2.2.2.2.2.2.1
abbrev xc (X : MX) : Code := X.2.2.2.2.2.2.2.2.2.1
abbrev xD (X : MX) : va_G := X.2.2.2.2.2.2.2.2.2.2.1
abbrev xK (X : MX) : CK := X.2.2.2.2.2.2.2.2.2.2.2.1
abbrev xas (X : MX) : Nat → Nat := X.2.2.2.2.2.2.2.2.2.2.2.2.1
abbrev xA (X : MX) : Nat → Prop := X.2.2.2.2.2.2.2.2.2.2.2.2.2.1
abbrev xcl (X : MX) : Nat := X.2.2.2.2.2.2.2.2.2.2.2.2.2.2.1
abbrev xsl (X : MX) : Nat := X.2.2.2.2.2.2.2.2.2.2.2.2.2.2.2.1
abbrev xQ (X : MX) : State → Prop := X.2.2.2.2.2.2.2.2.2.2.2.2.2.2.2.2
def stI (j : Nat) : Int32 := match j with
  | 0 => 1
  | 1 => 7
  | 2 => 49
  | 3 => 343
  | _ => 2401
def stV (j : Nat) : Value := .int (stI j)
def V (nL : Nat) (X : MX) (h : List PC) (pc : Nat) (lv : List (Nat × Value)) (st : List Value) : Prop :=
  ∀ (H : Heap) (locs : List Loc) (ls : Array Slot), va_P (xD X) vwCl (tH (xK X) (xas X) h) H → va_D (xA X) (tH (xK X) (xas X) h) → va_S (xA X) (xs X).heap H locs → lv_has ls nL (tL (xas X) lv) →
    W (xp X) (xl X) (xe X) (xR X) (xs X) (xm X) (xa X) (xb X) (xM X) (xc X) H locs (xcl X) (xsl X) (xQ X) (F0 (xm X) pc ls (st.map (tV (xas X))))
def Cx (own : String) (cc : ByteArray) (nL : Nat) (ret : Option FieldType) (d : Nat) (X : MX) : Prop :=
  (xp X).tables.exec = Jvm.exec ∧ (xc X).code = cc ∧ (xM X).sig.returnType = ret ∧ (xc X).maxLocals = nL ∧ (xs X).vm.findClass own = some (xm X).cls ∧ (∀ w ∈ lw_g, w.before (xa X) (xs X) = true) ∧
  va_K (xD X) vwCl (tys (xK X)) (xs X) ∧ (∀ q, (xs X).heap.size ≤ q → (xA X) q) ∧ (xM X).locks = false ∧ (d ≤ (xR X).frames ∧ 40 * d ≤ (xR X).locals ∧ xcl X ≤ (xR X).cells ∧ xsl X ≤ (xR X).slots) ∧
  va_Z RX5 "STEP" "[I" (.ref (xas X 1000)) (xA X) (xs X) (xs X).heap ∧ va_T .int (xas X 1000) 5 stV (xA X) (xs X) (xs X).heap ∧ NW (xs X)
def PreB (D : va_G) (K : CK) (as : Nat → Nat) (sz : Nat) (h : List PC) (U : State) : Prop :=
  U.heap.size = sz ∧ va_P D vwCl (tH K as h) U.heap ∧ va_K D vwCl (tys K) U ∧ va_D (fun _ => True) (tH K as h) ∧ va_Z RX5 "STEP" "[I" (.ref (as 1000)) (va_A (tH K as h) sz) U U.heap ∧ va_T .int (as 1000) 5 stV (va_A (tH K as h) sz) U U.heap ∧ NW U
def QB (D : va_G) (K : CK) (as : Nat → Nat) (A : Nat → Prop) (Post : Option Value → List PC → Prop) : Array Value → State → Outcome → State → Prop := fun _ st oc t =>
  (∃ (r : Option Value) (h' : List PC), oc = .returned (r.map (tV as)) ∧ Post r h' ∧ va_P D vwCl (tH K as h') t.heap ∧ va_K D vwCl (tys K) t ∧ va_D A (tH K as h')) ∧ va_F A st t
def rmD (d : Nat) : Room := { frames := d, cells := 0, slots := 0, locals := 40 * d }
/-- a method's contract: from the picture h it returns, with an answer and a picture of Post -/
def Con (y : MethodName) (bytes : ByteArray) (maxL : Nat) (ret : Option FieldType) (d : Nat) (av : List Value) (h : List PC) (Post : Option Value → List PC → Prop) : Prop :=
  ∀ (l : Launch) (D : va_G) (K : CK) (as : Nat → Nat) (sz : Nat), Met l y (Cond.code y bytes maxL ret :: lw_g) (rmD d) (va_Pc (av.map (tV as)) (PreB D K as sz h)) (QB D K as (va_A (tH K as h) sz) Post) 0 0 (va_A (tH K as h) sz)
/-- the end that a contract wants -/
def Rx (Post : Option Value → List PC → Prop) (X : MX) : Prop := xQ X = MQ (xb X) (QB (xD X) (xK X) (xas X) (xA X) Post) (xa X) (xs X) (xcl X) (xsl X) (xA X)
theorem con_of {y : MethodName} {bytes : ByteArray} {maxL : Nat} {ret : Option FieldType} {d : Nat} {av : List Value} {h : List PC} {Post : Option Value → List PC → Prop} (lv : List (Nat × Value)) (hy : plainName y.cls = true) (hsl : ∀ as : Nat → Nat, (lg_sl (av.map (tV as))).length ≤ maxL) (hlv : ∀ as : Nat → Nat, lv_args 0 (av.map (tV as)) = tL as lv)
    (body : ∀ X : MX, Cx y.cls bytes maxL ret d X → Rx Post X → V maxL X h 0 lv []) : Con y bytes maxL ret d av h Post := by
  intro l D K as sz
  refine Met.ofW (cc := bytes) (maxL := maxL) (ret := ret) hy rfl ?_
  intro p e s m args below meth c s₁ B hml hv
  obtain ⟨rfl, hsz, hP, hK, hD0, hZ, hT, hN⟩ := hv
  have hts := atoms_spec (ws := Cond.code y bytes maxL ret :: lw_g) B.pre
  have hown : s.vm.findClass y.cls = some m.cls := findClass_of_methodNamed B.named
  subst hsz
  have hD := hD0.self (sz := s.heap.size)
  have hl := lv_entry (av.map (tV as)) (n := maxL) (hsl as)
  rw [hlv as] at hl
  rw [lg_entry_eq]
  exact body (p, l, e, rmD d, s, m, (av.map (tV as)).toArray, below, meth, c, D, K, as, va_A (tH K as h) s.heap.size, 0, 0, MQ below (QB D K as (va_A (tH K as h) s.heap.size) Post) (av.map (tV as)).toArray s 0 0 (va_A (tH K as h) s.heap.size))
    ⟨B.exec, B.bytes, B.returns, hml, hown, fun w hw => hts w (List.mem_cons_of_mem _ hw), hK, fun q hq => Or.inr hq, B.notSynchronized, ⟨Nat.le_refl d, Nat.le_refl _, Nat.le_refl 0, Nat.le_refl 0⟩, hZ, hT, hN⟩ rfl s.heap [] _ hP hD va_S.rf hl
theorem natW : nativeFrameWords "java/lang/System" "arraycopy" 5 ≤ 16 := by decide +kernel
theorem min_w : Cond.static Lib.Math.min.name ∈ lw_g ∧ Cond.initialized "java/lang/Math" ∈ lw_g ∧ Cond.code Lib.Math.min.name Lib.Math.min.code 2 (some .int) ∈ lw_g := by decide +kernel
theorem copy_w : Cond.native arraycopyName ∈ lw_g ∧ Cond.static arraycopyName ∈ lw_g ∧ Cond.initialized "java/lang/System" ∈ lw_g := by decide +kernel
section VRULES
variable {own : String} {cc : ByteArray} {nL : Nat} {ret : Option FieldType} {d : Nat} {X : MX} {h : List PC} {pc : Nat} {lv : List (Nat × Value)} {st : List Value}
theorem v_eq {h' : List PC} {pc' : Nat} {lv' : List (Nat × Value)} {st' : List Value} (k : V nL X h' pc' lv' st') (e1 : h = h' := by rfl) (e2 : pc = pc' := by rfl) (e3 : lv = lv' := by rfl) (e4 : st = st' := by rfl) : V nL X h pc lv st := by
  subst e1; subst e2; subst e3; subst e4
  exact k
theorem v_keep (ks : List Nat) (k : V nL X h pc (lvkeep ks lv) st) : V nL X h pc lv st := fun H locs ls hP hD hS hl =>
  k H locs ls hP hD hS (lv_fewer hl fun q hq => by
    obtain ⟨r, hr, rfl⟩ := List.mem_map.mp hq
    exact List.mem_map.mpr ⟨r, (List.mem_filter.mp hr).1, rfl⟩)
theorem v_iload_n (C : Cx own cc nL ret d X) {k : Fin 4} {x : Int32} (hd : decode cc pc = .ok (.iload_n k, 1)) (hk : lvget lv (k : Nat) = some (.int x)) (kk : V nL X h (pc + 1) lv (.int x :: st)) : V nL X h pc lv st := fun H locs ls hP hD hS hl =>
  lv_iload_n C.1 C.2.1 hd rfl (lv_look hl hk) (kk H locs ls hP hD hS hl)
theorem v_iload (C : Cx own cc nL ret d X) {i : Nat} {x : Int32} (hd : decode cc pc = .ok (.iload i, 2)) (hk : lvget lv i = some (.int x)) (kk : V nL X h (pc + 2) lv (.int x :: st)) : V nL X h pc lv st := fun H locs ls hP hD hS hl =>
  lv_iload C.1 C.2.1 hd (lv_look hl hk) (kk H locs ls hP hD hS hl)
theorem v_lload_n (C : Cx own cc nL ret d X) {k : Fin 4} {x : Int64} (hd : decode cc pc = .ok (.lload_n k, 1)) (hk : lvget lv (k : Nat) = some (.long x)) (kk : V nL X h (pc + 1) lv (.long x :: st)) : V nL X h pc lv st := fun H locs ls hP hD hS hl =>
  lv_lload_n C.1 C.2.1 hd rfl (lv_look hl hk) (kk H locs ls hP hD hS hl)
theorem v_lload (C : Cx own cc nL ret d X) {i : Nat} {x : Int64} (hd : decode cc pc = .ok (.lload i, 2)) (hk : lvget lv i = some (.long x)) (kk : V nL X h (pc + 2) lv (.long x :: st)) : V nL X h pc lv st := fun H locs ls hP hD hS hl =>
  lv_lload C.1 C.2.1 hd (lv_look hl hk) (kk H locs ls hP hD hS hl)
theorem v_aload_n (C : Cx own cc nL ret d X) {k : Fin 4} {x : Nat} (hd : decode cc pc = .ok (.aload_n k, 1)) (hk : lvget lv (k : Nat) = some (.ref x)) (kk : V nL X h (pc + 1) lv (.ref x :: st)) : V nL X h pc lv st := fun H locs ls hP hD hS hl =>
  lv_aload_n C.1 C.2.1 hd rfl (lv_look hl hk) (kk H locs ls hP hD hS hl)
theorem v_aload (C : Cx own cc nL ret d X) {i : Nat} {x : Nat} (hd : decode cc pc = .ok (.aload i, 2)) (hk : lvget lv i = some (.ref x)) (kk : V nL X h (pc + 2) lv (.ref x :: st)) : V nL X h pc lv st := fun H locs ls hP hD hS hl =>
  lv_aload C.1 C.2.1 hd (lv_look hl hk) (kk H locs ls hP hD hS hl)
theorem v_istore_n (C : Cx own cc nL ret d X) {k : Fin 4} {x : Int32} (hd : decode cc pc = .ok (.istore_n k, 1)) (hn : (k : Nat) < nL) (kk : V nL X h (pc + 1) (lvput1 lv (k : Nat) (.int x)) st) : V nL X h pc lv (.int x :: st) := fun H locs ls hP hD hS hl =>
  lv_istore_n C.1 C.2.1 hd rfl hl hn rfl (fun ls' hl' => kk H locs ls' hP hD hS (lv_put1 (v := .int x) hl'))
theorem v_istore (C : Cx own cc nL ret d X) {i : Nat} {x : Int32} (hd : decode cc pc = .ok (.istore i, 2)) (hn : i < nL) (kk : V nL X h (pc + 2) (lvput1 lv i (.int x)) st) : V nL X h pc lv (.int x :: st) := fun H locs ls hP hD hS hl =>
  lv_istore C.1 C.2.1 hd hl hn rfl (fun ls' hl' => kk H locs ls' hP hD hS (lv_put1 (v := .int x) hl'))
theorem v_lstore_n (C : Cx own cc nL ret d X) {k : Fin 4} {x : Int64} (hd : decode cc pc = .ok (.lstore_n k, 1)) (hn : (k : Nat) + 1 < nL) (kk : V nL X h (pc + 1) (lvput2 lv (k : Nat) (.long x)) st) : V nL X h pc lv (.long x :: st) := fun H locs ls hP hD hS hl =>
  lv_lstore_n C.1 C.2.1 hd rfl hl hn rfl (fun ls' hl' => kk H locs ls' hP hD hS (lv_put2 (v := .long x) hl'))
theorem v_lstore (C : Cx own cc nL ret d X) {i : Nat} {x : Int64} (hd : decode cc pc = .ok (.lstore i, 2)) (hn : i + 1 < nL) (kk : V nL X h (pc + 2) (lvput2 lv i (.long x)) st) : V nL X h pc lv (.long x :: st) := fun H locs ls hP hD hS hl =>
  lv_lstore C.1 C.2.1 hd hl hn rfl (fun ls' hl' => kk H locs ls' hP hD hS (lv_put2 (v := .long x) hl'))
theorem v_astore_n (C : Cx own cc nL ret d X) {k : Fin 4} {x : Nat} (hd : decode cc pc = .ok (.astore_n k, 1)) (hn : (k : Nat) < nL) (kk : V nL X h (pc + 1) (lvput1 lv (k : Nat) (.ref x)) st) : V nL X h pc lv (.ref x :: st) := fun H locs ls hP hD hS hl =>
  lv_astore_n C.1 C.2.1 hd rfl hl hn rfl (fun ls' hl' => kk H locs ls' hP hD hS (lv_put1 (v := .ref x) hl'))
theorem v_astore (C : Cx own cc nL ret d X) {i : Nat} {x : Nat} (hd : decode cc pc = .ok (.astore i, 2)) (hn : i < nL) (kk : V nL X h (pc + 2) (lvput1 lv i (.ref x)) st) : V nL X h pc lv (.ref x :: st) := fun H locs ls hP hD hS hl =>
  lv_astore C.1 C.2.1 hd hl hn rfl (fun ls' hl' => kk H locs ls' hP hD hS (lv_put1 (v := .ref x) hl'))
theorem v_iinc (C : Cx own cc nL ret d X) {i : Nat} {n : Int} {x v : Int32} (hd : decode cc pc = .ok (.iinc i n, 3)) (hk : lvget lv i = some (.int x)) (hv : x + Int32.ofInt n = v) (hn : i < nL) (kk : V nL X h (pc + 3) (lvput1 lv i (.int v)) st) : V nL X h pc lv st := fun H locs ls hP hD hS hl => by
  have hm : (i, Value.int x) ∈ tL (xas X) lv := List.mem_map.mpr ⟨(i, .int x), lvget_mem hk, rfl⟩
  obtain ⟨k, hk2⟩ := List.getElem?_of_mem hm
  exact lv_iinc (k := k) C.1 C.2.1 hd hl hk2 hv hn rfl (fun ls' hl' => kk H locs ls' hP hD hS (lv_put1 (v := .int v) hl'))
theorem v_iconst (C : Cx own cc nL ret d X) {n : Int} (v : Int32) (hd : decode cc pc = .ok (.iconst n, 1)) (hv : Int32.ofInt n = v) (kk : V nL X h (pc + 1) lv (.int v :: st)) : V nL X h pc lv st := fun H locs ls hP hD hS hl =>
  lv_iconst C.1 C.2.1 hd hv (kk H locs ls hP hD hS hl)
theorem v_bipush (C : Cx own cc nL ret d X) {n : Int} (v : Int32) (hd : decode cc pc = .ok (.bipush n, 2)) (hv : (Int8.ofInt n).toInt32 = v) (kk : V nL X h (pc + 2) lv (.int v :: st)) : V nL X h pc lv st := fun H locs ls hP hD hS hl =>
  lv_bipush C.1 C.2.1 hd hv (kk H locs ls hP hD hS hl)
theorem v_sipush (C : Cx own cc nL ret d X) {n : Int} (v : Int32) (hd : decode cc pc = .ok (.sipush n, 3)) (hv : (Int16.ofInt n).toInt32 = v) (kk : V nL X h (pc + 3) lv (.int v :: st)) : V nL X h pc lv st := fun H locs ls hP hD hS hl =>
  lv_sipush C.1 C.2.1 hd hv (kk H locs ls hP hD hS hl)
theorem v_lconst (C : Cx own cc nL ret d X) {n : Fin 2} (v : Int64) (hd : decode cc pc = .ok (.lconst n, 1)) (hv : Int64.ofNat (n : Nat) = v) (kk : V nL X h (pc + 1) lv (.long v :: st)) : V nL X h pc lv st := fun H locs ls hP hD hS hl =>
  lv_lconst C.1 C.2.1 hd hv (kk H locs ls hP hD hS hl)
theorem v_ldc (C : Cx own cc nL ret d X) {index : Nat} (v : Int32) (hd : decode cc pc = .ok (.ldc index, 2)) (hw : Cond.constant own index v ∈ lw_g) (kk : V nL X h (pc + 2) lv (.int v :: st)) : V nL X h pc lv st := fun H locs ls hP hD hS hl =>
  lv_ldc C.1 C.2.1 C.2.2.2.2.1 (C.2.2.2.2.2.1 _ hw) hd (kk H locs ls hP hD hS hl)
theorem v_ldc2 (C : Cx own cc nL ret d X) {index : Nat} (v : Int64) (hd : decode cc pc = .ok (.ldc2_w index, 3)) (hw : Cond.constantLong own index v ∈ lw_g) (kk : V nL X h (pc + 3) lv (.long v :: st)) : V nL X h pc lv st := fun H locs ls hP hD hS hl =>
  lv_ldc2 C.1 C.2.1 C.2.2.2.2.1 (C.2.2.2.2.2.1 _ hw) hd (kk H locs ls hP hD hS hl)
theorem v_iadd (C : Cx own cc nL ret d X) {x y : Int32} (hd : decode cc pc = .ok (.iadd, 1)) (kk : V nL X h (pc + 1) lv (.int (x + y) :: st)) : V nL X h pc lv (.int y :: .int x :: st) := fun H locs ls hP hD hS hl =>
  lv_iadd C.1 C.2.1 hd (kk H locs ls hP hD hS hl)
theorem v_isub (C : Cx own cc nL ret d X) {x y : Int32} (hd : decode cc pc = .ok (.isub, 1)) (kk : V nL X h (pc + 1) lv (.int (x - y) :: st)) : V nL X h pc lv (.int y :: .int x :: st) := fun H locs ls hP hD hS hl =>
  lv_isub C.1 C.2.1 hd (kk H locs ls hP hD hS hl)
theorem v_imul (C : Cx own cc nL ret d X) {x y : Int32} (hd : decode cc pc = .ok (.imul, 1)) (kk : V nL X h (pc + 1) lv (.int (x * y) :: st)) : V nL X h pc lv (.int y :: .int x :: st) := fun H locs ls hP hD hS hl =>
  lv_imul C.1 C.2.1 hd (kk H locs ls hP hD hS hl)
theorem v_iand (C : Cx own cc nL ret d X) {x y : Int32} (hd : decode cc pc = .ok (.iand, 1)) (kk : V nL X h (pc + 1) lv (.int (x &&& y) :: st)) : V nL X h pc lv (.int y :: .int x :: st) := fun H locs ls hP hD hS hl =>
  lv_iand C.1 C.2.1 hd (kk H locs ls hP hD hS hl)
theorem v_idiv (C : Cx own cc nL ret d X) {x y : Int32} (hd : decode cc pc = .ok (.idiv, 1)) (hne : ¬ y = 0) (kk : V nL X h (pc + 1) lv (.int (x / y) :: st)) : V nL X h pc lv (.int y :: .int x :: st) := fun H locs ls hP hD hS hl =>
  lv_idiv C.1 C.2.1 hd hne (kk H locs ls hP hD hS hl)
theorem v_irem (C : Cx own cc nL ret d X) {x y : Int32} (hd : decode cc pc = .ok (.irem, 1)) (hne : ¬ y = 0) (kk : V nL X h (pc + 1) lv (.int (x - x / y * y) :: st)) : V nL X h pc lv (.int y :: .int x :: st) := fun H locs ls hP hD hS hl =>
  lv_irem C.1 C.2.1 hd hne (kk H locs ls hP hD hS hl)
theorem v_ladd (C : Cx own cc nL ret d X) {x y : Int64} (hd : decode cc pc = .ok (.ladd, 1)) (kk : V nL X h (pc + 1) lv (.long (x + y) :: st)) : V nL X h pc lv (.long y :: .long x :: st) := fun H locs ls hP hD hS hl =>
  lv_ladd C.1 C.2.1 hd (kk H locs ls hP hD hS hl)
theorem v_lsub (C : Cx own cc nL ret d X) {x y : Int64} (hd : decode cc pc = .ok (.lsub, 1)) (kk : V nL X h (pc + 1) lv (.long (x - y) :: st)) : V nL X h pc lv (.long y :: .long x :: st) := fun H locs ls hP hD hS hl =>
  lv_lsub C.1 C.2.1 hd (kk H locs ls hP hD hS hl)
theorem v_lmul (C : Cx own cc nL ret d X) {x y : Int64} (hd : decode cc pc = .ok (.lmul, 1)) (kk : V nL X h (pc + 1) lv (.long (x * y) :: st)) : V nL X h pc lv (.long y :: .long x :: st) := fun H locs ls hP hD hS hl =>
  lv_lmul C.1 C.2.1 hd (kk H locs ls hP hD hS hl)
theorem v_ldiv (C : Cx own cc nL ret d X) {x y : Int64} (hd : decode cc pc = .ok (.ldiv, 1)) (hne : ¬ y = 0) (kk : V nL X h (pc + 1) lv (.long (x / y) :: st)) : V nL X h pc lv (.long y :: .long x :: st) := fun H locs ls hP hD hS hl =>
  lv_ldiv C.1 C.2.1 hd hne (kk H locs ls hP hD hS hl)
theorem v_lrem (C : Cx own cc nL ret d X) {x y : Int64} (hd : decode cc pc = .ok (.lrem, 1)) (hne : ¬ y = 0) (kk : V nL X h (pc + 1) lv (.long (x - x / y * y) :: st)) : V nL X h pc lv (.long y :: .long x :: st) := fun H locs ls hP hD hS hl =>
  lv_lrem C.1 C.2.1 hd hne (kk H locs ls hP hD hS hl)
theorem v_lneg (C : Cx own cc nL ret d X) {x : Int64} (hd : decode cc pc = .ok (.lneg, 1)) (kk : V nL X h (pc + 1) lv (.long (-x) :: st)) : V nL X h pc lv (.long x :: st) := fun H locs ls hP hD hS hl =>
  lv_lneg C.1 C.2.1 hd (kk H locs ls hP hD hS hl)
theorem v_i2l (C : Cx own cc nL ret d X) {x : Int32} (hd : decode cc pc = .ok (.i2l, 1)) (kk : V nL X h (pc + 1) lv (.long x.toInt64 :: st)) : V nL X h pc lv (.int x :: st) := fun H locs ls hP hD hS hl =>
  lv_i2l C.1 C.2.1 hd rfl (kk H locs ls hP hD hS hl)
theorem v_l2i (C : Cx own cc nL ret d X) {x : Int64} (hd : decode cc pc = .ok (.l2i, 1)) (kk : V nL X h (pc + 1) lv (.int x.toInt32 :: st)) : V nL X h pc lv (.long x :: st) := fun H locs ls hP hD hS hl =>
  lv_l2i C.1 C.2.1 hd rfl (kk H locs ls hP hD hS hl)
theorem v_lcmp (C : Cx own cc nL ret d X) {x y : Int64} (hd : decode cc pc = .ok (.lcmp, 1)) (kk : V nL X h (pc + 1) lv (.int (lg_cmp x y) :: st)) : V nL X h pc lv (.long y :: .long x :: st) := fun H locs ls hP hD hS hl =>
  W.lcmp C.1 C.2.1 hd (kk H locs ls hP hD hS hl)
theorem v_dup (C : Cx own cc nL ret d X) {v : Value} (hd : decode cc pc = .ok (.dup, 1)) (hv : v.category = 1) (kk : V nL X h (pc + 1) lv (v :: v :: st)) : V nL X h pc lv (v :: st) := fun H locs ls hP hD hS hl =>
  lv_dup C.1 C.2.1 hd ((tV_cat _ v).trans hv) (kk H locs ls hP hD hS hl)
theorem v_dup2_11 (C : Cx own cc nL ret d X) {v w : Value} (hd : decode cc pc = .ok (.dup2, 1)) (hv : v.category = 1) (hw : w.category = 1) (kk : V nL X h (pc + 1) lv (v :: w :: v :: w :: st)) : V nL X h pc lv (v :: w :: st) := fun H locs ls hP hD hS hl =>
  lv_dup2_11 C.1 C.2.1 hd ((tV_cat _ v).trans hv) ((tV_cat _ w).trans hw) (kk H locs ls hP hD hS hl)
theorem v_goto (C : Cx own cc nL ret d X) {off : Int} (tgt : Nat) (hd : decode cc pc = .ok (.goto off, 3)) (ht : (pc : Int) + off = (tgt : Int)) (kk : V nL X h tgt lv st) : V nL X h pc lv st := fun H locs ls hP hD hS hl =>
  lv_goto C.1 C.2.1 hd ht (kk H locs ls hP hD hS hl)
theorem v_if_eq (C : Cx own cc nL ret d X) {x : Int32} {off : Int} (tgt : Nat) (hd : decode cc pc = .ok (.ifCond .eq off, 3)) (ht : (pc : Int) + off = (tgt : Int)) (kt : x = 0 → V nL X h tgt lv st) (kf : ¬ x = 0 → V nL X h (pc + 3) lv st) : V nL X h pc lv (.int x :: st) := fun H locs ls hP hD hS hl =>
  lv_if_eq C.1 C.2.1 hd ht (fun q => kt q H locs ls hP hD hS hl) (fun q => kf q H locs ls hP hD hS hl)
theorem v_icmp_eq (C : Cx own cc nL ret d X) {x y : Int32} {off : Int} (tgt : Nat) (hd : decode cc pc = .ok (.if_icmp .eq off, 3)) (ht : (pc : Int) + off = (tgt : Int)) (kt : x = y → V nL X h tgt lv st) (kf : ¬ x = y → V nL X h (pc + 3) lv st) : V nL X h pc lv (.int y :: .int x :: st) := fun H locs ls hP hD hS hl =>
  lv_icmp_eq C.1 C.2.1 hd ht (fun q => kt q H locs ls hP hD hS hl) (fun q => kf q H locs ls hP hD hS hl)
theorem v_if_ne (C : Cx own cc nL ret d X) {x : Int32} {off : Int} (tgt : Nat) (hd : decode cc pc = .ok (.ifCond .ne off, 3)) (ht : (pc : Int) + off = (tgt : Int)) (kt : ¬ x = 0 → V nL X h tgt lv st) (kf : x = 0 → V nL X h (pc + 3) lv st) : V nL X h pc lv (.int x :: st) := fun H locs ls hP hD hS hl =>
  lv_if_ne C.1 C.2.1 hd ht (fun q => kt q H locs ls hP hD hS hl) (fun q => kf q H locs ls hP hD hS hl)
theorem v_icmp_ne (C : Cx own cc nL ret d X) {x y : Int32} {off : Int} (tgt : Nat) (hd : decode cc pc = .ok (.if_icmp .ne off, 3)) (ht : (pc : Int) + off = (tgt : Int)) (kt : ¬ x = y → V nL X h tgt lv st) (kf : x = y → V nL X h (pc + 3) lv st) : V nL X h pc lv (.int y :: .int x :: st) := fun H locs ls hP hD hS hl =>
  lv_icmp_ne C.1 C.2.1 hd ht (fun q => kt q H locs ls hP hD hS hl) (fun q => kf q H locs ls hP hD hS hl)
theorem v_if_lt (C : Cx own cc nL ret d X) {x : Int32} {off : Int} (tgt : Nat) (hd : decode cc pc = .ok (.ifCond .lt off, 3)) (ht : (pc : Int) + off = (tgt : Int)) (kt : x < 0 → V nL X h tgt lv st) (kf : ¬ x < 0 → V nL X h (pc + 3) lv st) : V nL X h pc lv (.int x :: st) := fun H locs ls hP hD hS hl =>
  lv_if_lt C.1 C.2.1 hd ht (fun q => kt q H locs ls hP hD hS hl) (fun q => kf q H locs ls hP hD hS hl)
theorem v_icmp_lt (C : Cx own cc nL ret d X) {x y : Int32} {off : Int} (tgt : Nat) (hd : decode cc pc = .ok (.if_icmp .lt off, 3)) (ht : (pc : Int) + off = (tgt : Int)) (kt : x < y → V nL X h tgt lv st) (kf : ¬ x < y → V nL X h (pc + 3) lv st) : V nL X h pc lv (.int y :: .int x :: st) := fun H locs ls hP hD hS hl =>
  lv_icmp_lt C.1 C.2.1 hd ht (fun q => kt q H locs ls hP hD hS hl) (fun q => kf q H locs ls hP hD hS hl)
theorem v_if_ge (C : Cx own cc nL ret d X) {x : Int32} {off : Int} (tgt : Nat) (hd : decode cc pc = .ok (.ifCond .ge off, 3)) (ht : (pc : Int) + off = (tgt : Int)) (kt : 0 ≤ x → V nL X h tgt lv st) (kf : ¬ 0 ≤ x → V nL X h (pc + 3) lv st) : V nL X h pc lv (.int x :: st) := fun H locs ls hP hD hS hl =>
  lv_if_ge C.1 C.2.1 hd ht (fun q => kt q H locs ls hP hD hS hl) (fun q => kf q H locs ls hP hD hS hl)
theorem v_icmp_ge (C : Cx own cc nL ret d X) {x y : Int32} {off : Int} (tgt : Nat) (hd : decode cc pc = .ok (.if_icmp .ge off, 3)) (ht : (pc : Int) + off = (tgt : Int)) (kt : y ≤ x → V nL X h tgt lv st) (kf : ¬ y ≤ x → V nL X h (pc + 3) lv st) : V nL X h pc lv (.int y :: .int x :: st) := fun H locs ls hP hD hS hl =>
  lv_icmp_ge C.1 C.2.1 hd ht (fun q => kt q H locs ls hP hD hS hl) (fun q => kf q H locs ls hP hD hS hl)
theorem v_if_gt (C : Cx own cc nL ret d X) {x : Int32} {off : Int} (tgt : Nat) (hd : decode cc pc = .ok (.ifCond .gt off, 3)) (ht : (pc : Int) + off = (tgt : Int)) (kt : 0 < x → V nL X h tgt lv st) (kf : ¬ 0 < x → V nL X h (pc + 3) lv st) : V nL X h pc lv (.int x :: st) := fun H locs ls hP hD hS hl =>
  lv_if_gt C.1 C.2.1 hd ht (fun q => kt q H locs ls hP hD hS hl) (fun q => kf q H locs ls hP hD hS hl)
theorem v_icmp_gt (C : Cx own cc nL ret d X) {x y : Int32} {off : Int} (tgt : Nat) (hd : decode cc pc = .ok (.if_icmp .gt off, 3)) (ht : (pc : Int) + off = (tgt : Int)) (kt : y < x → V nL X h tgt lv st) (kf : ¬ y < x → V nL X h (pc + 3) lv st) : V nL X h pc lv (.int y :: .int x :: st) := fun H locs ls hP hD hS hl =>
  lv_icmp_gt C.1 C.2.1 hd ht (fun q => kt q H locs ls hP hD hS hl) (fun q => kf q H locs ls hP hD hS hl)
theorem v_if_le (C : Cx own cc nL ret d X) {x : Int32} {off : Int} (tgt : Nat) (hd : decode cc pc = .ok (.ifCond .le off, 3)) (ht : (pc : Int) + off = (tgt : Int)) (kt : x ≤ 0 → V nL X h tgt lv st) (kf : ¬ x ≤ 0 → V nL X h (pc + 3) lv st) : V nL X h pc lv (.int x :: st) := fun H locs ls hP hD hS hl =>
  lv_if_le C.1 C.2.1 hd ht (fun q => kt q H locs ls hP hD hS hl) (fun q => kf q H locs ls hP hD hS hl)
theorem v_icmp_le (C : Cx own cc nL ret d X) {x y : Int32} {off : Int} (tgt : Nat) (hd : decode cc pc = .ok (.if_icmp .le off, 3)) (ht : (pc : Int) + off = (tgt : Int)) (kt : x ≤ y → V nL X h tgt lv st) (kf : ¬ x ≤ y → V nL X h (pc + 3) lv st) : V nL X h pc lv (.int y :: .int x :: st) := fun H locs ls hP hD hS hl =>
  lv_icmp_le C.1 C.2.1 hd ht (fun q => kt q H locs ls hP hD hS hl) (fun q => kf q H locs ls hP hD hS hl)
/-- a field's link: the place idx of own's pool is field j of the class ci of vwCl -/
def FL (own : String) (idx ci j : Nat) : Prop := ∃ (Cn : String) (T : u_T) (N : Nat), vwCl[ci]? = some (Cn, T, N) ∧ j < N ∧ Cond.fieldLink own idx (T j).1 (T j).2.1 (T j).2.2.1 ∈ lw_g ∧ ∀ w ∈ u_ws Cn T N, w ∈ lw_g
/-- a field that is written: not final, its type -/
def FP (own : String) (idx ci j : Nat) (ty : FieldType) : Prop := ∃ (Cn : String) (T : u_T) (N : Nat) (ty0 : Nat → FieldType), vwCl[ci]? = some (Cn, T, N) ∧ j < N ∧ Cond.fieldLink own idx (T j).1 (T j).2.1 (T j).2.2.1 ∈ lw_g ∧ (∀ w ∈ u_ws Cn T N, w ∈ lw_g) ∧ (∀ k, k < N → parseFieldDescriptor (T k).2.2.1 = some (ty0 k)) ∧ (∀ a, a < N → ∀ b, b < N → a ≠ b → (T a).2.1 ≠ (T b).2.1) ∧ (T j).2.2.2 = false ∧ parseFieldDescriptor (T j).2.2.1 = some ty
theorem v_get (C : Cx own cc nL ret d X) {k idx ci j : Nat} {fs : List Value} {v : Value} (hd : decode cc pc = .ok (.getfield idx, 3)) (hf : FL own idx ci j) (ho : h[k]? = some (pO ci fs)) (hv : fs[j]? = some v) (kk : V nL X h (pc + 3) lv (v :: st)) : V nL X h pc lv (.ref k :: st) := fun H locs ls hP hD hS hl => by
  obtain ⟨Cn, T, N, h1, h2, h3, h4⟩ := hf
  exact va_get (D := xD X) (ci := ci) (v := tV (xas X) v) (C := Cn) (T := T) (N := N) C.1 C.2.1 C.2.2.2.2.2.1 h4 C.2.2.2.2.1 C.2.2.2.2.2.2.1 hP k (tH_at ho) h1 j h2 (C.2.2.2.2.2.1 _ h3) (fun _ q => q) (by rw [List.getElem?_map, hv]; rfl) hd (kk H locs ls hP hD hS hl)
theorem v_put (C : Cx own cc nL ret d X) {k idx ci j : Nat} {fs : List Value} {v : Value} {ty : FieldType} (hd : decode cc pc = .ok (.putfield idx, 3)) (hf : FP own idx ci j ty) (ho : h[k]? = some (pO ci fs)) (hn : ∀ as : Nat → Nat, narrow ty (tV as v) = tV as v) (hfit : ∀ as : Nat → Nat, fits ty (tV as v) = true) (hlen : j < fs.length) (kk : V nL X (h.set k (pO ci (fs.set j v))) (pc + 3) lv st) : V nL X h pc lv (v :: .ref k :: st) := fun H locs ls hP hD hS hl => by
  obtain ⟨Cn, T, N, ty0, h1, h2, h3, h4, h5, h6, h7, h8⟩ := hf
  refine va_put (D := xD X) (ci := ci) (v := tV (xas X) v) (ty := ty) (C := Cn) (T := T) (N := N) C.1 C.2.1 C.2.2.2.2.2.1 h4 ty0 h5 h6 C.2.2.2.2.1 C.2.2.2.2.2.2.1 hP hD hS k (tH_at ho) h1 j h2 (C.2.2.2.2.2.1 _ h3) (fun _ q => q) h7 h8 (hn _) (hfit _) (by rw [List.length_map]; exact hlen) hd (fun H1 locs1 hP1 hD1 hS1 => ?_)
  have e : (tH (xK X) (xas X) h).set k (xas X k, .inr (ci, (fs.map (tV (xas X))).set j (tV (xas X) v))) = tH (xK X) (xas X) (h.set k (pO ci (fs.set j v))) := by
    rw [← tH_set]
    show _ = List.set _ k (xas X k, (Sum.inr (ci, (fs.set j v).map (tV (xas X))) : va_E))
    rw [List.map_set]
  rw [e] at hP1 hD1
  exact kk H1 locs1 ls hP1 hD1 hS1 hl
theorem nI_in' {j n : Nat} (hj : j < n) (hn : n < 2 ^ 31) : vp_in (nI j) n := vp_in_nI hj hn
theorem v_iald (C : Cx own cc nL ret d X) {k n : Nat} {f : Nat → Int32} {i : Int32} (j : Nat) (hd : decode cc pc = .ok (.iaload, 1)) (ho : h[k]? = some (pI n f)) (hi : i = nI j) (hj : j < n) (hn : n < 2 ^ 31) (kk : V nL X h (pc + 1) lv (.int (f j) :: st)) : V nL X h pc lv (.int i :: .ref k :: st) := fun H locs ls hP hD hS hl => by
  subst hi
  refine va_iald C.1 C.2.1 C.2.2.2.2.2.2.1 hP k 0 (tH_at ho) rfl (nI_in' hj hn) hd ?_
  rw [nI_clamp (Nat.lt_trans hj hn)]
  exact kk H locs ls hP hD hS hl
theorem v_lald (C : Cx own cc nL ret d X) {k n : Nat} {f : Nat → Int64} {i : Int32} (j : Nat) (hd : decode cc pc = .ok (.laload, 1)) (ho : h[k]? = some (pL n f)) (hi : i = nI j) (hj : j < n) (hn : n < 2 ^ 31) (kk : V nL X h (pc + 1) lv (.long (f j) :: st)) : V nL X h pc lv (.int i :: .ref k :: st) := fun H locs ls hP hD hS hl => by
  subst hi
  refine va_lald C.1 C.2.1 C.2.2.2.2.2.2.1 hP k 1 (tH_at ho) rfl (nI_in' hj hn) hd ?_
  rw [nI_clamp (Nat.lt_trans hj hn)]
  exact kk H locs ls hP hD hS hl
theorem v_aald (C : Cx own cc nL ret d X) {k n y : Nat} {f : Nat → Option Nat} {i : Int32} (j : Nat) (hd : decode cc pc = .ok (.aaload, 1)) (ho : h[k]? = some (pR n f)) (hi : i = nI j) (hj : j < n) (hn : n < 2 ^ 31) (hy : f j = some y) (kk : V nL X h (pc + 1) lv (.ref y :: st)) : V nL X h pc lv (.int i :: .ref k :: st) := fun H locs ls hP hD hS hl => by
  subst hi
  have ha := tH_at (K := xK X) (as := xas X) ho
  have hc : (nI j).toNatClampNeg = j := nI_clamp (Nat.lt_trans hj hn)
  refine W.aald (v := .ref (xas X y)) (ty := .array .long) C.1 C.2.1 (hP k _ ha) ((C.2.2.2.2.2.2.1.2 2 _ rfl).1 n (fun j => va_rf ((f j).map (xas X)))) rfl (fun q => by cases q) (by show ¬ (nI j < 0 ∨ (arrV _ _ _).slots.size ≤ _); rw [arrV_size]; exact nI_in' hj hn) ?_ rfl rfl hd (kk H locs ls hP hD hS hl)
  show (arrV _ _ _).slots[_]? = _
  rw [hc, arrV_read _ _ hj]
  show some (va_rf ((f j).map (xas X))) = _
  rw [hy]
  rfl
theorem v_step (C : Cx own cc nL ret d X) {i : Int32} (j : Nat) (hd : decode cc pc = .ok (.iaload, 1)) (hi : i = nI j) (hj : j < 5) (kk : V nL X h (pc + 1) lv (.int (stI j) :: st)) : V nL X h pc lv (.int i :: .ref 1000 :: st) := fun H locs ls hP hD hS hl => by
  subst hi
  refine va_ti C.1 C.2.1 C.2.2.2.2.2.2.2.2.2.2.2.1 hS (nI_in' hj (by decide)) (v := .int (stI j)) ?_ hd (kk H locs ls hP hD hS hl)
  rw [nI_clamp (by omega)]
  rfl
theorem v_iast (C : Cx own cc nL ret d X) {k n : Nat} {f : Nat → Int32} {i x : Int32} (j : Nat) (hd : decode cc pc = .ok (.iastore, 1)) (ho : h[k]? = some (pI n f)) (hi : i = nI j) (hj : j < n) (hn : n < 2 ^ 31) (kk : V nL X (h.set k (pI n (upd f j x))) (pc + 1) lv st) : V nL X h pc lv (.int x :: .int i :: .ref k :: st) := fun H locs ls hP hD hS hl => by
  subst hi
  refine va_iast C.1 C.2.1 C.2.2.2.2.2.2.1 hP hD hS k 0 (tH_at ho) rfl (nI_in' hj hn) hd (fun H1 locs1 hP1 hD1 hS1 => ?_)
  rw [nI_clamp (Nat.lt_trans hj hn)] at hP1 hD1
  have e : (tH (xK X) (xas X) h).set k (xas X k, .inl ((xK X).1, n, .inl (upd f j x))) = tH (xK X) (xas X) (h.set k (pI n (upd f j x))) := tH_set (c := pI n (upd f j x))
  rw [e] at hP1 hD1
  exact kk H1 locs1 ls hP1 hD1 hS1 hl
theorem v_last (C : Cx own cc nL ret d X) {k n : Nat} {f : Nat → Int64} {i : Int32} {x : Int64} (j : Nat) (hd : decode cc pc = .ok (.lastore, 1)) (ho : h[k]? = some (pL n f)) (hi : i = nI j) (hj : j < n) (hn : n < 2 ^ 31) (kk : V nL X (h.set k (pL n (vp_updL f j x))) (pc + 1) lv st) : V nL X h pc lv (.long x :: .int i :: .ref k :: st) := fun H locs ls hP hD hS hl => by
  subst hi
  refine va_last C.1 C.2.1 C.2.2.2.2.2.2.1 hP hD hS k 1 (tH_at ho) rfl (nI_in' hj hn) hd (fun H1 locs1 hP1 hD1 hS1 => ?_)
  rw [nI_clamp (Nat.lt_trans hj hn)] at hP1 hD1
  have e : (tH (xK X) (xas X) h).set k (xas X k, .inl ((xK X).2.1, n, .inr (.inl (vp_updL f j x)))) = tH (xK X) (xas X) (h.set k (pL n (vp_updL f j x))) := tH_set (c := pL n (vp_updL f j x))
  rw [e] at hP1 hD1
  exact kk H1 locs1 ls hP1 hD1 hS1 hl
theorem v_ilen (C : Cx own cc nL ret d X) {k n : Nat} {f : Nat → Int32} (hd : decode cc pc = .ok (.arraylength, 1)) (ho : h[k]? = some (pI n f)) (kk : V nL X h (pc + 1) lv (.int (nI n) :: st)) : V nL X h pc lv (.ref k :: st) := fun H locs ls hP hD hS hl =>
  va_alen C.1 C.2.1 C.2.2.2.2.2.2.1 hP k 0 (tH_at ho) rfl rfl hd (kk H locs ls hP hD hS hl)
theorem v_llen (C : Cx own cc nL ret d X) {k n : Nat} {f : Nat → Int64} (hd : decode cc pc = .ok (.arraylength, 1)) (ho : h[k]? = some (pL n f)) (kk : V nL X h (pc + 1) lv (.int (nI n) :: st)) : V nL X h pc lv (.ref k :: st) := fun H locs ls hP hD hS hl =>
  va_alen C.1 C.2.1 C.2.2.2.2.2.2.1 hP k 1 (tH_at ho) rfl rfl hd (kk H locs ls hP hD hS hl)
theorem v_getS (C : Cx own cc nL ret d X) {idx : Nat} (hd : decode cc pc = .ok (.getstatic idx, 3)) (hw : Cond.fieldLink own idx RX5 "STEP" "[I" ∈ lw_g) (kk : V nL X h (pc + 3) lv (.ref 1000 :: st)) : V nL X h pc lv st := fun H locs ls hP hD hS hl =>
  va_gets C.1 C.2.1 C.2.2.2.2.2.2.2.2.2.2.1 hS C.2.2.2.2.1 (C.2.2.2.2.2.1 _ hw) (fun _ q => q) hd (kk H locs ls hP hD hS hl)
theorem v_getSN (C : Cx own cc nL ret d X) {idx : Nat} (hd : decode cc pc = .ok (.getstatic idx, 3)) (hw : ∀ U, NW U → va_Nw (.fieldLinkNest own idx RX5 "STEP" "[I" RX5) U) (kk : V nL X h (pc + 3) lv (.ref 1000 :: st)) : V nL X h pc lv st := fun H locs ls hP hD hS hl =>
  va_getsN C.1 C.2.1 C.2.2.2.2.2.2.2.2.2.2.1 hS C.2.2.2.2.1 (va_Nw.use rfl (hw _ C.2.2.2.2.2.2.2.2.2.2.2.2)) (fun _ q => q) hd (kk H locs ls hP hD hS hl)
theorem v_iret (C : Cx own cc nL (some .int) d X) {Post : Option Value → List PC → Prop} (E : Rx Post X) {x : Int32} (hd : decode cc pc = .ok (.ireturn, 1)) (hp : Post (some (.int x)) h) : V nL X h pc lv [.int x] := fun H locs ls hP hD hS hl => by
  rw [E]
  exact W.iret (v := x) C.1 C.2.1 C.2.2.1 (fun t ht hW => ⟨⟨some (.int x), h, rfl, hp, by rw [ht]; exact hP, va_K.moved hW.alike C.2.2.2.2.2.2.1, hD⟩, hS.F ht⟩) hS.2.2 hd C.2.2.2.2.2.2.2.2.1
theorem v_zret (C : Cx own cc nL (some .boolean) d X) {Post : Option Value → List PC → Prop} (E : Rx Post X) {x : Int32} (hd : decode cc pc = .ok (.ireturn, 1)) (hx : narrow .boolean (.int x) = .int x) (hp : Post (some (.int x)) h) : V nL X h pc lv [.int x] := fun H locs ls hP hD hS hl => by
  rw [E]
  exact W.zret (v := x) C.1 C.2.1 C.2.2.1 hx (fun t ht hW => ⟨⟨some (.int x), h, rfl, hp, by rw [ht]; exact hP, va_K.moved hW.alike C.2.2.2.2.2.2.1, hD⟩, hS.F ht⟩) hS.2.2 hd C.2.2.2.2.2.2.2.2.1
theorem v_lret (C : Cx own cc nL (some .long) d X) {Post : Option Value → List PC → Prop} (E : Rx Post X) {x : Int64} (hd : decode cc pc = .ok (.lreturn, 1)) (hp : Post (some (.long x)) h) : V nL X h pc lv [.long x] := fun H locs ls hP hD hS hl => by
  rw [E]
  exact W.lret (v := x) C.1 C.2.1 C.2.2.1 (fun t ht hW => ⟨⟨some (.long x), h, rfl, hp, by rw [ht]; exact hP, va_K.moved hW.alike C.2.2.2.2.2.2.1, hD⟩, hS.F ht⟩) hS.2.2 hd C.2.2.2.2.2.2.2.2.1
theorem v_vret (C : Cx own cc nL none d X) {Post : Option Value → List PC → Prop} (E : Rx Post X) (hd : decode cc pc = .ok (.return_, 1)) (hp : Post none h) : V nL X h pc lv [] := fun H locs ls hP hD hS hl => by
  rw [E]
  exact W.vret C.1 C.2.1 C.2.2.1 (fun t ht hW => ⟨⟨none, h, rfl, hp, by rw [ht]; exact hP, va_K.moved hW.alike C.2.2.2.2.2.2.1, hD⟩, hS.F ht⟩) hS.2.2 hd C.2.2.2.2.2.2.2.2.1
/-- behind a call -/
theorem v_behind (C : Cx own cc nL ret d X) {Post : Option Value → List PC → Prop} {rest : List Value} {g : List Value} {a : Array Value}
    (hr : ∀ (H : Heap) (locs : List Loc) (ls : Array Slot), va_P (xD X) vwCl (tH (xK X) (xas X) h) H → va_D (xA X) (tH (xK X) (xas X) h) → va_S (xA X) (xs X).heap H locs → lv_has ls nL (tL (xas X) lv) →
      va_Run (xp X) (xl X) (xe X) (xR X) (xs X) (xm X) (xa X) (xb X) (xM X) (xc X) H locs (xcl X) (xsl X) 0 0 (F0 (xm X) pc ls (g.map (tV (xas X)))) (rest.map (tV (xas X))) (QB (xD X) (xK X) (xas X) (va_A (tH (xK X) (xas X) h) H.size) Post a) (va_A (tH (xK X) (xas X) h) H.size))
    (kk : ∀ (r : Option Value) (h' : List PC), Post r h' → V nL X h' (pc + 3) lv (r.toList ++ rest)) : V nL X h pc lv g := by
  intro H locs ls hP hD hS hl T hT Xs
  have hF : ∀ q, va_A (tH (xK X) (xas X) h) H.size q → xA X q := by
    intro q hq
    rcases hq with ⟨k, e, hk⟩ | hq
    · exact hD.2 k _ hk
    · exact C.2.2.2.2.2.2.2.1 q (Nat.le_trans hS.1 hq)
  obtain ⟨v, st₀, t, T', L, h0, X', hL, e1, e2, ⟨⟨r, h', hv, hp, hP', hK', hD'⟩, hz, hk⟩, step⟩ := hr H locs ls hP hD hS hl T hT Xs
  have hv' : v = r.map (tV (xas X)) := by
    injection hv
  rw [h0] at hz hk
  have hD2 : va_D (xA X) (tH (xK X) (xas X) h') := hD'.weaken (fun _ _ _ q => hF _ q)
  have hS2 : va_S (xA X) (xs X).heap T'.heap (locs ++ L) := by
    refine ⟨Nat.le_trans hS.1 (by rw [e1]; exact hz), fun q h1 h2 => ?_, fun q hq => ?_⟩
    · rw [e1, hk q (Nat.lt_of_lt_of_le h1 hS.1) (fun z => h2 (hF q z))]
      exact hS.2.1 q h1 h2
    · rcases List.mem_append.mp hq with h | h
      · exact hS.2.2 q h
      · exact hF _ (hL q h)
  obtain ⟨t2, a1, b1⟩ := kk r h' hp T'.heap (locs ++ L) ls (by rw [e1]; exact hP') hD2 hS2 hl T' rfl X'
  refine ⟨t2, step t2 ?_, b1⟩
  have e3 : (r.toList ++ rest).map (tV (xas X)) = v.toList ++ rest.map (tV (xas X)) := by
    rw [hv']
    cases r <;> simp
  rw [e3] at a1
  exact a1
theorem preB_of (C : Cx own cc nL ret d X) {H : Heap} {locs : List Loc} (hP : va_P (xD X) vwCl (tH (xK X) (xas X) h) H) (hD : va_D (xA X) (tH (xK X) (xas X) h)) (hS : va_S (xA X) (xs X).heap H locs) {U : State} (hU : U.heap = H) (hW : (xs X).WarmedH U.vm) : PreB (xD X) (xK X) (xas X) H.size h U := by
  have hF : ∀ q, va_A (tH (xK X) (xas X) h) H.size q → xA X q := by
    intro q hq
    rcases hq with ⟨k, e, hk⟩ | hq
    · exact hD.2 k _ hk
    · exact C.2.2.2.2.2.2.2.1 q (Nat.le_trans hS.1 hq)
  refine ⟨by rw [hU], by rw [hU]; exact hP, va_K.moved hW.alike C.2.2.2.2.2.2.1, hD.weaken (fun _ _ _ _ => trivial), ?_, ?_, C.2.2.2.2.2.2.2.2.2.2.2.2.warm hW⟩
  · rw [hU]
    exact ((C.2.2.2.2.2.2.2.2.2.2.1.kept (fun a h1 h2 => hS.2.1 a h1 h2)).moved hW.alike).narrow hF
  · rw [hU]
    exact ((C.2.2.2.2.2.2.2.2.2.2.2.1.kept (fun a h1 h2 => hS.2.1 a h1 h2)).moved hW.alike).narrow hF
theorem preB_blind {av : List Value} {D : va_G} {K : CK} {as : Nat → Nat} {sz : Nat} : FrameBlind (va_Pc av (PreB D K as sz h)) := fun a U g mk q => by
  obtain ⟨q0, q1, qP, qK, qD, qZ, qT, qN⟩ := q
  exact ⟨q0, q1, qP, va_K.moved (u := U) (U := U.calling g mk a) (Vm.Alike.refl U.vm) qK, qD, va_Z.moved (u := U) (U := U.calling g mk a) (Vm.Alike.refl U.vm) qZ, va_T.moved (u := U) (U := U.calling g mk a) (Vm.Alike.refl U.vm) qT, qN.same (U := U.calling g mk a) rfl⟩
/-- the links of a call of an own instance method, of a static one, of a nest mate's static one -/
def LkV (own : String) (idx : Nat) (y : MethodName) (bytes : ByteArray) (maxL : Nat) (rt : Option FieldType) (n : Nat) : Prop := (Cond.methodLink own idx y ∈ lw_g ∧ Cond.instanceMethod y ∈ lw_g ∧ Cond.selects y.cls y y ∈ lw_g ∧ Cond.initialized y.cls ∈ lw_g ∧ Cond.code y bytes maxL rt ∈ lw_g) ∧ (y.cls ≠ "java/lang/invoke/MethodHandle" ∧ y.cls ≠ "java/lang/invoke/VarHandle" ∧ (parseMethodDescriptor y.desc).map (fun d => d.parameters.length) = some n) ∧ maxL ≤ 21
def LkS (own : String) (idx : Nat) (y : MethodName) (bytes : ByteArray) (maxL : Nat) (rt : Option FieldType) (n : Nat) : Prop := (Cond.methodLink own idx y ∈ lw_g ∧ Cond.static y ∈ lw_g ∧ Cond.initialized y.cls ∈ lw_g ∧ Cond.code y bytes maxL rt ∈ lw_g) ∧ (y.cls ≠ "java/lang/invoke/MethodHandle" ∧ y.cls ≠ "java/lang/invoke/VarHandle" ∧ (parseMethodDescriptor y.desc).map (fun d => d.parameters.length) = some n) ∧ maxL ≤ 21
def LkN (own : String) (idx : Nat) (y : MethodName) (host : String) (bytes : ByteArray) (maxL : Nat) (rt : Option FieldType) (n : Nat) : Prop := ((∀ U, NW U → va_Nw (.methodLinkNest own idx y host) U) ∧ Cond.static y ∈ lw_g ∧ Cond.initialized y.cls ∈ lw_g ∧ Cond.code y bytes maxL rt ∈ lw_g) ∧ (y.cls ≠ "java/lang/invoke/MethodHandle" ∧ y.cls ≠ "java/lang/invoke/VarHandle" ∧ (parseMethodDescriptor y.desc).map (fun d => d.parameters.length) = some n) ∧ maxL ≤ 21
theorem tbl_good : GoodIn lw_g lw_g := fun w hw => ⟨hw, good_of_word (List.mem_filter.mp hw).2⟩
theorem code_good {y : MethodName} {bytes : ByteArray} {maxL : Nat} {rt : Option FieldType} (hc : Cond.code y bytes maxL rt ∈ lw_g) : GoodIn lw_g (Cond.code y bytes maxL rt :: lw_g) := fun w hw => (List.mem_cons.mp hw).elim (fun e => by rw [e]; exact tbl_good _ hc) (fun q => tbl_good w q)
theorem v_callV (C : Cx own cc nL ret d X) {idx k ci n maxL d' : Nat} {y : MethodName} {bytes : ByteArray} {rt : Option FieldType} {av : List Value} {fs : List Value} {q : vw_C} {Post : Option Value → List PC → Prop} {stk : List Value} (hd : decode cc pc = .ok (.invokevirtual idx, 3)) (hL : LkV own idx y bytes maxL rt n) (hC : Con y bytes maxL rt d' (.ref k :: av) h Post) (hdd : d' < d) (ho : h[k]? = some (pO ci fs)) (hq : vwCl[ci]? = some q) (hqc : q.1 = y.cls) (hn : av.length = n) (hstk : stk = av.reverse ++ .ref k :: st) (hrest : (st.map fun v => v.category).sum ≤ 8)
    (kk : ∀ (r : Option Value) (h' : List PC), Post r h' → V nL X h' (pc + 3) lv (r.toList ++ st)) : V nL X h pc lv stk := by
  obtain ⟨⟨w1, w2, w3, w4, w5⟩, hds, hmx⟩ := hL
  have hts := C.2.2.2.2.2.1
  have hR := C.2.2.2.2.2.2.2.2.2.1
  refine v_behind C (rest := st) (a := (Value.ref (xas X k) :: av.map (tV (xas X))).toArray) (fun H locs ls hP hD hS hl => ?_) kk
  have hcb : CallB (xR X) (xs X) (xa X) own idx y bytes maxL rt (Cond.code y bytes maxL rt :: lw_g) (rmD d') 0 0 n := callB_of n hts (code_good w5) rfl rfl rfl (hts _ w4) (hts _ w1) hds ⟨Nat.le_trans hdd hR.1, by show 8 + (maxL + 11) + 40 * d' ≤ _; have := hR.2.1; omega⟩
  exact va_runV (As := av.map (tV (xas X))) (b := xas X k) ⟨C.1, C.2.1, C.2.2.2.1, C.2.2.2.2.1, hts⟩ (hC (xl X) (xD X) (xK X) (xas X) H.size) ⟨hcb, hts _ w2, hts _ w3⟩
    ⟨preB_blind, by have := va_recv C.2.2.2.2.2.2.1 hP (ci := ci) (q0 := k) hq (tH_at ho); rw [hqc] at this; exact this, fun U hU hW => ⟨rfl, preB_of C hP hD hS hU hW⟩⟩ rfl (by rw [List.length_map]; exact hn) hl.1
    (by rw [hstk]; simp [tV]) (by have e : ((st.map (tV (xas X))).map fun v => v.category) = st.map fun v => v.category := by { rw [List.map_map]; exact List.map_congr_left (fun v _ => tV_cat _ v) }
                                  show 2 * 0 + _ ≤ 8
                                  rw [e]; omega) hd ⟨hR.2.2.1, hR.2.2.2⟩
theorem v_callS (C : Cx own cc nL ret d X) {idx n maxL d' : Nat} {y : MethodName} {bytes : ByteArray} {rt : Option FieldType} {av : List Value} {Post : Option Value → List PC → Prop} {stk : List Value} (hd : decode cc pc = .ok (.invokestatic idx, 3)) (hL : LkS own idx y bytes maxL rt n) (hC : Con y bytes maxL rt d' av h Post) (hdd : d' < d) (hn : av.length = n) (hstk : stk = av.reverse ++ st) (hrest : (st.map fun v => v.category).sum ≤ 8)
    (kk : ∀ (r : Option Value) (h' : List PC), Post r h' → V nL X h' (pc + 3) lv (r.toList ++ st)) : V nL X h pc lv stk := by
  obtain ⟨⟨w1, w2, w4, w5⟩, hds, hmx⟩ := hL
  have hts := C.2.2.2.2.2.1
  have hR := C.2.2.2.2.2.2.2.2.2.1
  refine v_behind C (rest := st) (a := (av.map (tV (xas X))).toArray) (fun H locs ls hP hD hS hl => ?_) kk
  have hcb : CallB (xR X) (xs X) (xa X) own idx y bytes maxL rt (Cond.code y bytes maxL rt :: lw_g) (rmD d') 0 0 n := callB_of n hts (code_good w5) rfl rfl rfl (hts _ w4) (hts _ w1) hds ⟨Nat.le_trans hdd hR.1, by show 8 + (maxL + 11) + 40 * d' ≤ _; have := hR.2.1; omega⟩
  exact va_runS (As := av.map (tV (xas X))) ⟨C.1, C.2.1, C.2.2.2.1, C.2.2.2.2.1, hts⟩ (hC (xl X) (xD X) (xK X) (xas X) H.size) ⟨hcb, hts _ w2⟩
    ⟨preB_blind, fun U hU hW => ⟨rfl, preB_of C hP hD hS hU hW⟩⟩ rfl (by rw [List.length_map]; exact hn) hl.1
    (by rw [hstk]; simp) (by have e : ((st.map (tV (xas X))).map fun v => v.category) = st.map fun v => v.category := by { rw [List.map_map]; exact List.map_congr_left (fun v _ => tV_cat _ v) }
                             show 2 * 0 + _ ≤ 8
                             rw [e]; omega) hd ⟨hR.2.2.1, hR.2.2.2⟩
theorem v_callN (C : Cx own cc nL ret d X) {idx n maxL d' : Nat} {y : MethodName} {host : String} {bytes : ByteArray} {rt : Option FieldType} {av : List Value} {Post : Option Value → List PC → Prop} {stk : List Value} (hd : decode cc pc = .ok (.invokestatic idx, 3)) (hL : LkN own idx y host bytes maxL rt n) (hC : Con y bytes maxL rt d' av h Post) (hdd : d' < d) (hn : av.length = n) (hstk : stk = av.reverse ++ st) (hrest : (st.map fun v => v.category).sum ≤ 8)
    (kk : ∀ (r : Option Value) (h' : List PC), Post r h' → V nL X h' (pc + 3) lv (r.toList ++ st)) : V nL X h pc lv stk := by
  obtain ⟨⟨w1, w2, w4, w5⟩, hds, hmx⟩ := hL
  have hts := C.2.2.2.2.2.1
  have hR := C.2.2.2.2.2.2.2.2.2.1
  refine v_behind C (rest := st) (a := (av.map (tV (xas X))).toArray) (fun H locs ls hP hD hS hl => ?_) kk
  have hcb : va_CN (xR X) (xs X) (xa X) own idx y host bytes maxL rt (Cond.code y bytes maxL rt :: lw_g) (rmD d') 0 0 n := va_cnB n hts (code_good w5) rfl rfl rfl (w1 _ C.2.2.2.2.2.2.2.2.2.2.2.2) (hts _ w4) hds ⟨Nat.le_trans hdd hR.1, by show 8 + (maxL + 11) + 40 * d' ≤ _; have := hR.2.1; omega⟩
  exact va_runSN (As := av.map (tV (xas X))) ⟨C.1, C.2.1, C.2.2.2.1, C.2.2.2.2.1, hts⟩ (hC (xl X) (xD X) (xK X) (xas X) H.size) ⟨hcb, hts _ w2, trivial⟩
    ⟨preB_blind, fun U hU hW => ⟨rfl, preB_of C hP hD hS hU hW⟩⟩ rfl (by rw [List.length_map]; exact hn) hl.1
    (by rw [hstk]; simp) (by have e : ((st.map (tV (xas X))).map fun v => v.category) = st.map fun v => v.category := by { rw [List.map_map]; exact List.map_congr_left (fun v _ => tV_cat _ v) }
                             show 2 * 0 + _ ≤ 8
                             rw [e]; omega) hd ⟨hR.2.2.1, hR.2.2.2⟩
theorem v_min (C : Cx own cc nL ret d X) {idx : Nat} {x y : Int32} (hd : decode cc pc = .ok (.invokestatic idx, 3)) (hdd : 0 < d) (hw : Cond.methodLink own idx Lib.Math.min.name ∈ lw_g) (hrest : (st.map fun v => v.category).sum ≤ 8) (kk : V nL X h (pc + 3) lv (.int (if y < x then y else x) :: st)) : V nL X h pc lv (.int y :: .int x :: st) := fun H locs ls hP hD hS hl => by
  have hts := C.2.2.2.2.2.1
  have hR := C.2.2.2.2.2.2.2.2.2.1
  have e : ((st.map (tV (xas X))).map fun v => v.category) = st.map fun v => v.category := by
    rw [List.map_map]
    exact List.map_congr_left (fun v _ => tV_cat _ v)
  exact va_mmin C.1 C.2.1 (C.2.2.2.1.trans hl.1.symm) C.2.2.2.2.1 (hts _ hw) (hts _ min_w.1) (hts _ min_w.2.1) (hts _ min_w.2.2) (Nat.le_trans hdd hR.1) (by rw [e]; have := hR.2.1; omega) hR.2.2.1 hR.2.2.2 hd (kk H locs ls hP hD hS hl)
theorem v_copy (C : Cx own cc nL ret d X) {idx k1 k2 n1 n2 n : Nat} {f g : Nat → Int32} {c : Int32} (hd : decode cc pc = .ok (.invokestatic idx, 3)) (hdd : 0 < d) (hw : Cond.methodLink own idx arraycopyName ∈ lw_g) (ho1 : h[k1]? = some (pI n1 f)) (ho2 : h[k2]? = some (pI n2 g)) (hc : c = nI n) (hn : n < 2 ^ 31) (hn1 : n ≤ n1) (hn2 : n ≤ n2) (hrest : (st.map fun v => v.category).sum ≤ 8)
    (kk : V nL X (h.set k2 (pI n2 (va_cpy f g 0 0 n))) (pc + 3) lv st) : V nL X h pc lv (.int c :: .int 0 :: .ref k2 :: .int 0 :: .ref k1 :: st) := fun H locs ls hP hD hS hl => by
  subst hc
  have hts := C.2.2.2.2.2.1
  have hR := C.2.2.2.2.2.2.2.2.2.1
  have e : ((st.map (tV (xas X))).map fun v => v.category) = st.map fun v => v.category := by
    rw [List.map_map]
    exact List.map_congr_left (fun v _ => tV_cat _ v)
  have hcl : (nI n).toNatClampNeg = n := nI_clamp hn
  have hz : (0 : Int32).toNatClampNeg = 0 := rfl
  refine va_copyi C.1 C.2.1 (C.2.2.2.1.trans hl.1.symm) C.2.2.2.2.1 (hts _ hw) (hts _ copy_w.1) (hts _ copy_w.2.1) (hts _ copy_w.2.2) C.2.2.2.2.2.2.1 hP hD hS k1 k2 0 0 (tH_at ho1) (tH_at ho2) rfl rfl rfl (by decide) (by decide) (nI_pos hn) (by rw [hz, hcl]; omega) (by rw [hz, hcl]; omega) (fun _ _ => rfl) (Nat.le_trans hdd hR.1) (by rw [e]; have h8 := hR.2.1; have h9 := natW; omega) hd (fun H1 locs1 hP1 hD1 hS1 => ?_)
  rw [hz, hcl] at hP1 hD1
  have e2 : (tH (xK X) (xas X) h).set k2 (xas X k2, .inl ((xK X).1, n2, .inl (va_cpy f g 0 0 n))) = tH (xK X) (xas X) (h.set k2 (pI n2 (va_cpy f g 0 0 n))) := tH_set (c := pI n2 (va_cpy f g 0 0 n))
  rw [e2] at hP1 hD1
  exact kk H1 locs1 ls hP1 hD1 hS1 hl
end VRULES
