/-! 'new long[4][5]' over worlds, out of the library's step for arrays of arrays -/
theorem out_arr (c : ClassId) (N h0 : Nat) : ∀ i : Nat, Jvm.Free.Multi.outerC c N h0 i = arrV c N (fun j => va_rf (if j < i then some (h0 + 1 + j) else none))
  | 0 => (arrV_new c N .null).trans (congrArg (arrV c N) (funext fun j => by rw [if_neg (Nat.not_lt_zero j)]; rfl))
  | i + 1 => by
    show (Jvm.Free.Multi.outerC c N h0 i).setSlot i (.ref (h0 + 1 + i)) = _
    rw [out_arr c N h0 i, arrV_store]
    refine congrArg (arrV c N) (funext fun j => ?_)
    show (if j = i then Value.ref (h0 + 1 + i) else va_rf (if j < i then some (h0 + 1 + j) else none)) = va_rf (if j < i + 1 then some (h0 + 1 + j) else none)
    by_cases e : j = i
    · rw [if_pos e, if_pos (by omega), e]; rfl
    · rw [if_neg e]
      by_cases h : j < i
      · rw [if_pos h, if_pos (by omega)]
      · rw [if_neg h, if_neg (by omega)]
set_option maxHeartbeats 4000000 in
theorem mnaW : MnaW := by
  intro p l e R s m args below meth c H locs cells slots Q ls rest D cl A ts H0 X cy hexec hb hown hcl hover harr hcy hK hP hD hS hA hcells hslots kk T hT Xs
  have h4 : (4 : Int32).toNatClampNeg = 4 := by decide
  have h5 : (5 : Int32).toNatClampNeg = 5 := by decide
  have st := Xs.multianewarray2F hexec (own := RX0) (index := 18) (ty := .long) hown hcl (over_moved (Vm.Alike.refl s.vm) hover) harr (g := F0 m 17 ls (.int 5 :: .int 4 :: rest)) (n := 4) (k := 5) (rest := rest) rfl (by rw [hb]; exact dX0_init_17) rfl (by decide) (by decide) (by decide) (by decide) (by decide) rfl rfl (by rw [h4]; exact hcells) (by rw [h4, h5]; exact hslots)
  rw [h4, h5] at st
  obtain ⟨vm₁, cA, comp, -, fA, fC, hO, -, X', step⟩ := st
  have ec : some cy = some comp := hcy.symm.trans fC
  cases ec
  have hTh : (T.setVm vm₁).heap = H := hT
  obtain ⟨f1, f2, -, -⟩ := Jvm.Free.Multi.fill_facts (T.setVm vm₁) cA cy 4 5 (defaultValue .long) 4
  have f3 : ∀ x : Nat, x < H.size → (Jvm.Free.Multi.fill (T.setVm vm₁) cA cy 4 5 (defaultValue .long) 4).heap[x]? = H[x]? := fun x hx => by
    have := Jvm.Free.Multi.fill_old (T.setVm vm₁) cA cy 4 5 (defaultValue .long) (a := x) (by rw [hTh]; exact hx) 4
    rw [hTh] at this
    exact this
  have f4 : ∀ j : Nat, j < 4 → (Jvm.Free.Multi.fill (T.setVm vm₁) cA cy 4 5 (defaultValue .long) 4).heap[H.size + 1 + j]? = some (vp_cell cy (5, .inr (.inl (fun _ => 0)))) := fun j hj => by
    have := Jvm.Free.Multi.fill_inner (T.setVm vm₁) cA cy 4 5 (defaultValue .long) 4 j hj
    rw [hTh] at this
    rw [this]
    exact congrArg some (arrV_new cy 5 (.long 0))
  rw [hTh, out_arr] at f2
  rw [hTh] at f1
  generalize Jvm.Free.Multi.fill (T.setVm vm₁) cA cy 4 5 (defaultValue .long) 4 = F at X' step f1 f2 f3 f4
  rw [show cells + 1 + 4 = cells + 5 by omega, show slots + 4 + 4 * 5 = slots + 24 by omega] at X'
  generalize hw2 : ([(H.size, .inl (cA, 4, .inr (.inr (.inr (.inr (fun i => if i < 4 then some (H.size + 1 + i) else none)))))), (H.size + 1 + 0, .inl (cy, 5, .inr (.inl (fun _ => 0)))), (H.size + 1 + 1, .inl (cy, 5, .inr (.inl (fun _ => 0)))), (H.size + 1 + 2, .inl (cy, 5, .inr (.inl (fun _ => 0)))), (H.size + 1 + 3, .inl (cy, 5, .inr (.inl (fun _ => 0))))] : va_W) = w2
  have ad : ∀ (k : Nat) (q : Nat × va_E), w2[k]? = some q → q.1 = H.size + k ∧ va_at D cl q F.heap := by
    intro k q hq
    rw [← hw2] at hq
    match k, hq with
    | 0, hq => cases hq; exact ⟨rfl, f2⟩
    | 1, hq => cases hq; exact ⟨rfl, f4 0 (by decide)⟩
    | 2, hq => cases hq; exact ⟨rfl, f4 1 (by decide)⟩
    | 3, hq => cases hq; exact ⟨rfl, f4 2 (by decide)⟩
    | 4, hq => cases hq; exact ⟨rfl, f4 3 (by decide)⟩
    | k + 5, hq => simp at hq
  have hP2 : va_P D cl (X ++ w2) F.heap := (hP.kept (fun k x hx => f3 x.1 ((hP k x hx).lt))).app (fun k q hq => (ad k q hq).2)
  have hD2 : va_D A (X ++ w2) := by
    refine va_D.app hD ⟨fun i j p q hi hj hpq => ?_, fun k q hq => hA _ ?_⟩ (fun i j x y hx hy hxy => ?_)
    · have := (ad i p hi).1
      have := (ad j q hj).1
      omega
    · have := (ad k q hq).1
      have := hS.1
      omega
    · have := (hP i x hx).lt
      have := (ad j y hy).1
      omega
  have hK2 : va_K D cl (ts ++ [(cA, .array .long)]) s := ⟨hK.1, fun k x hx => by
    by_cases hl : k < ts.length
    · rw [List.getElem?_append_left hl] at hx
      exact hK.2 k x hx
    · rw [List.getElem?_append_right (by omega)] at hx
      have h0 : k - ts.length < 1 := (List.getElem?_eq_some_iff.mp hx).1
      rw [show k - ts.length = 0 by omega] at hx
      cases hx
      obtain ⟨-, k9, g1, cm, g2⟩ := (hO 0 0 0).1
      exact ⟨fun N z => ⟨fun q hq => (by cases hq), k9, g1, cm, g2⟩, fA⟩⟩
  have hS2 : va_S A H0 F.heap locs := ⟨by rw [f1]; have := hS.1; omega, fun x h1 h2 => (f3 x (Nat.lt_of_lt_of_le h1 hS.1)).trans (hS.2.1 x h1 h2), hS.2.2⟩
  obtain ⟨t, a1, b1⟩ := kk H.size (fun i => H.size + 1 + i) cA F.heap hK2 (by show va_P D cl (X ++ _) F.heap; rw [hw2]; exact hP2) (by show va_D A (X ++ _); rw [hw2]; exact hD2) hS2 F rfl X'
  refine ⟨t, step t ?_, b1⟩
  have e9 : T.heap.size = H.size := by rw [hT]
  rw [e9]
  exact a1
