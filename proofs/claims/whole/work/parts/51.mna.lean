/-! 'new long[4][5]' in a picture, out of the rule over worlds -/
def MnaW : Prop := ∀ {p : Program} {l : Launch} {e : Env} {R : Room} {s : State} {m : MethodId} {args : Array Value} {below : List Frame} {meth : Method} {c : Code} {H : Heap} {locs : List Loc} {cells slots : Nat} {Q : State → Prop} {ls : Array Slot} {rest : List Value} {D : va_G} {cl : List vw_C} {A : Nat → Prop} {ts : List (ClassId × FieldType)} {H0 : Heap} {X : va_W} {cy : ClassId},
  p.tables.exec = Jvm.exec → c.code = cX0_init → s.vm.findClass RX0 = some m.cls → (Cond.classLink RX0 18 "[[J").before args s = true → (Cond.arrayOver (.array .long)).before #[] s = true → (Cond.arrayClass .long).before args s = true → s.vm.findClass (FieldType.array .long).toString = some cy → va_K D cl ts s → va_P D cl X H → va_D A X → va_S A H0 H locs → (∀ q, H0.size ≤ q → A q) → cells + 5 ≤ R.cells → slots + 24 ≤ R.slots →
  (∀ (q : Nat) (r : Nat → Nat) (cA : ClassId) (H1 : Heap), va_K D cl (ts ++ [(cA, .array .long)]) s → va_P D cl (X ++ [(q, .inl (cA, 4, .inr (.inr (.inr (.inr (fun i => if i < 4 then some (r i) else none)))))), (r 0, .inl (cy, 5, .inr (.inl (fun _ => 0)))), (r 1, .inl (cy, 5, .inr (.inl (fun _ => 0)))), (r 2, .inl (cy, 5, .inr (.inl (fun _ => 0)))), (r 3, .inl (cy, 5, .inr (.inl (fun _ => 0))))]) H1 →
    va_D A (X ++ [(q, .inl (cA, 4, .inr (.inr (.inr (.inr (fun i => if i < 4 then some (r i) else none)))))), (r 0, .inl (cy, 5, .inr (.inl (fun _ => 0)))), (r 1, .inl (cy, 5, .inr (.inl (fun _ => 0)))), (r 2, .inl (cy, 5, .inr (.inl (fun _ => 0)))), (r 3, .inl (cy, 5, .inr (.inl (fun _ => 0))))]) → va_S A H0 H1 locs →
    W p l e R s m args below meth c H1 locs (cells + 5) (slots + 24) Q (F0 m 21 ls (.ref q :: rest))) →
  W p l e R s m args below meth c H locs cells slots Q (F0 m 17 ls (.int 5 :: .int 4 :: rest))
def up5 (as : Nat → Nat) (q : Nat) (r : Nat → Nat) : Nat → Nat := fun k => if k = 15 then q else if k = 16 then r 0 else if k = 17 then r 1 else if k = 18 then r 2 else if k = 19 then r 3 else as k
theorem up5_ag {as : Nat → Nat} {q : Nat} {r : Nat → Nat} : AgA 15 as (up5 as q r) := fun k hk => by
  show (if k = 15 then q else if k = 16 then r 0 else if k = 17 then r 1 else if k = 18 then r 2 else if k = 19 then r 3 else as k) = as k
  rw [if_neg (by omega), if_neg (by omega), if_neg (by omega), if_neg (by omega), if_neg (by omega)]
theorem mna_w : Cond.classLink RX0 18 "[[J" ∈ lw_g := by decide +kernel
set_option maxHeartbeats 8000000 in
theorem mna_of (hW : MnaW) : Mna := by
  intro d X h lv st C hA hr hl oh ol os kk H locs ls hP hD hS hv
  have hK := C.2.2.2.2.2.2.1
  have hcy : (xs X).vm.findClass (FieldType.array .long).toString = some (xK X).2.1 := (hK.2 1 ((xK X).2.1, .long) rfl).2
  refine hW (cy := (xK X).2.1) C.1 C.2.1 C.2.2.2.2.1 (C.2.2.2.2.2.1 _ mna_w) hA.2 (C.2.2.2.2.2.1 _ arr_L) hcy hK hP hD hS C.2.2.2.2.2.2.2.1 hr.1 hr.2 (fun q r cA H1 hK1 hP1 hD1 hS1 => ?_)
  have e : cA = (xK X).2.2 := by
    have a1 : (xs X).vm.findClass ("[" ++ (FieldType.array .long).toString) = some cA := (hK1.2 3 (cA, .array .long) rfl).2
    have a2 : (xs X).vm.findClass ("[" ++ (FieldType.array .long).toString) = some (xK X).2.2 := (hK.2 2 ((xK X).2.2, .array .long) rfl).2
    exact Option.some.inj (a1.symm.trans a2)
  subst e
  rw [hl] at oh ol os kk
  have g : AgA 15 (xas X) (up5 (xas X) q r) := up5_ag
  have er : (fun i => (rowF i).map (up5 (xas X) q r)) = fun i => if i < 4 then some (r i) else none := by
    funext i
    match i with
    | 0 => rfl
    | 1 => rfl
    | 2 => rfl
    | 3 => rfl
    | i + 4 =>
      rw [if_neg (by omega)]
      rfl
  have e1 : tH (xK X) (up5 (xas X) q r) (h ++ [pR 4 rowF, pL 5 (fun _ => 0), pL 5 (fun _ => 0), pL 5 (fun _ => 0), pL 5 (fun _ => 0)]) = tH (xK X) (xas X) h ++ [(q, .inl ((xK X).2.2, 4, .inr (.inr (.inr (.inr (fun i => if i < 4 then some (r i) else none)))))), (r 0, .inl ((xK X).2.1, 5, .inr (.inl (fun _ => 0)))), (r 1, .inl ((xK X).2.1, 5, .inr (.inl (fun _ => 0)))), (r 2, .inl ((xK X).2.1, 5, .inr (.inl (fun _ => 0)))), (r 3, .inl ((xK X).2.1, 5, .inr (.inl (fun _ => 0))))] := by
    have e9 : h ++ [pR 4 rowF, pL 5 (fun _ => 0), pL 5 (fun _ => 0), pL 5 (fun _ => 0), pL 5 (fun _ => 0)] = ((((h ++ [pR 4 rowF]) ++ [pL 5 (fun _ => 0)]) ++ [pL 5 (fun _ => 0)]) ++ [pL 5 (fun _ => 0)]) ++ [pL 5 (fun _ => 0)] := by simp
    rw [e9, tH_app, tH_app, tH_app, tH_app, tH_app, tH_ag g (by omega) oh, ← er]
    simp only [List.length_append, List.length_cons, List.length_nil, hl, List.append_assoc, List.cons_append, List.nil_append]
    rfl
  have k1 := kk (Xp X (up5 (xas X) q r) 5 24) ⟨_, g, rfl⟩ H1 locs ls (by show va_P (xD X) vwCl (tH (xK X) (up5 (xas X) q r) _) H1; rw [e1]; exact hP1) (by show va_D (xA X) (tH (xK X) (up5 (xas X) q r) _); rw [e1]; exact hD1) hS1 (by show lv_has ls 3 (tL (up5 (xas X) q r) lv); rw [tL_ag g ol]; exact hv)
  have e2 : (Value.ref 15 :: st).map (tV (up5 (xas X) q r)) = .ref q :: st.map (tV (xas X)) := by
    rw [List.map_cons, tS_ag g os]
    rfl
  have k1 : W (xp X) (xl X) (xe X) (xR X) (xs X) (xm X) (xa X) (xb X) (xM X) (xc X) H1 locs (xcl X + 5) (xsl X + 24) (xQ X) (F0 (xm X) 21 ls ((Value.ref 15 :: st).map (tV (up5 (xas X) q r)))) := k1
  rw [e2] at k1
  exact k1
