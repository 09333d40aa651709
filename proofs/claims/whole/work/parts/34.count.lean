/-! how many extreme patterns there are: counted by boxes -/
noncomputable def cnG (cd : Nat → Nat → Bool) (nx : Nat → Nat → Nat) (f : Nat) : List Nat → Nat → Nat :=
  Nat.rec (motive := fun _ => List Nat → Nat → Nat) (fun _ _ => 0) (fun _ ih ws S => List.rec (motive := fun _ => Nat) 1 (fun x ws _ => Nat.add (ih ws S) (cond (cd S x) (ih (Nat.mul 2 x :: ws) (nx S x)) 0)) ws) f
noncomputable def bxG (cd : Nat → Nat → Bool) (nx : Nat → Nat → Nat) (f : Nat) : List Nat → Nat → Nat → Nat → List Nat :=
  Nat.rec (motive := fun _ => List Nat → Nat → Nat → Nat → List Nat) (fun _ _ _ _ => []) (fun _ ih ws S c cod => List.rec (motive := fun _ => List Nat) [cod] (fun x ws _ => (ih ws S 0 (Nat.add (Nat.mul cod 6) c)) ++ (cond (cd S x) (ih (Nat.mul 2 x :: ws) (nx S x) (Nat.succ c) cod) [])) ws) f
noncomputable def mcd (S x : Nat) : Bool := and (Nat.beq (Nat.land S (Nat.shiftLeft S x)) 0) (Nat.blt (Nat.shiftLeft S x) 2305843009213693952)
noncomputable def mnx (S x : Nat) : Nat := Nat.lor S (Nat.shiftLeft S x)
noncomputable def pcd (S x : Nat) : Bool := Nat.ble (Nat.add S x) 60
noncomputable def mcn (a b c d : Nat) : Nat := cnG mcd mnx 29 [a, b, c, d] 1
noncomputable def pcn (a b c d : Nat) : Nat := cnG pcd Nat.add 29 [a, b, c, d] 0
noncomputable def exq (a b c d : Nat) : Bool := List.elem (a * 1000000 + b * 10000 + c * 100 + d) [2030708, 2030711, 3040506, 3040507, 3040511, 3040513, 3040514, 3050607, 3050711, 4050607, 4050613]
noncomputable def L3 (a b c : Nat) (f : Nat) : Nat → Bool :=
  Nat.rec (motive := fun _ => Nat → Bool) (fun _ => true) (fun _ ih d => and (or (Nat.ble (mcn a b c d) 72) (exq a b c d)) (ih (Nat.succ d))) f
noncomputable def L2 (a b : Nat) (f : Nat) : Nat → Bool :=
  Nat.rec (motive := fun _ => Nat → Bool) (fun _ => true) (fun _ ih c => or (Nat.ble (pcn a b c c) 72) (and (L3 a b c (Nat.sub 62 c) c) (ih (Nat.succ c)))) f
noncomputable def L1 (a : Nat) (f : Nat) : Nat → Bool :=
  Nat.rec (motive := fun _ => Nat → Bool) (fun _ => true) (fun _ ih b => or (Nat.ble (pcn a b b b) 72) (and (L2 a b (Nat.sub 62 b) b) (ih (Nat.succ b)))) f
noncomputable def lowS (a b c d cod : Nat) : Nat := a * (2 ^ (cod / 216) - 1) + b * (2 ^ (cod / 36 % 6) - 1) + c * (2 ^ (cod / 6 % 6) - 1) + d * (2 ^ (cod % 6) - 1)
noncomputable def fstW (a b c d cod : Nat) : Nat := cond (Nat.beq (cod / 216) 0) (cond (Nat.beq (cod / 36 % 6) 0) (cond (Nat.beq (cod / 6 % 6) 0) (cond (Nat.beq (cod % 6) 0) 0 d) c) b) a
noncomputable def ful (W a b c d cod : Nat) : Bool := and (Nat.ble (lowS a b c d cod) W) (Nat.blt W (2 * lowS a b c d cod + fstW a b c d cod))
noncomputable def exA (a b c d : Nat) (f : Nat) : Bool :=
  Nat.rec (motive := fun _ => Bool) true (fun W ih => and (Nat.ble (List.length (List.filter (ful W a b c d) (bxG mcd mnx 29 [a, b, c, d] 1 0 0))) 71) ih) f
theorem l1_7 : L1 7 55 7 = true := by decide +kernel
theorem l1_6 : L1 6 56 6 = true := by decide +kernel
theorem l1_5 : L1 5 57 5 = true := by decide +kernel
theorem l1_4 : L1 4 58 4 = true := by decide +kernel
theorem l1_3 : L1 3 59 3 = true := by decide +kernel
theorem l1_2 : L1 2 60 2 = true := by decide +kernel
theorem l1_1 : L1 1 61 1 = true := by decide +kernel
theorem l1_8 : Nat.ble (pcn 8 8 8 8) 72 = true := by decide +kernel
theorem exA_1 : exA 2 3 7 8 61 = true := by decide +kernel
theorem exA_2 : exA 2 3 7 11 61 = true := by decide +kernel
theorem exA_3 : exA 3 4 5 6 61 = true := by decide +kernel
theorem exA_4 : exA 3 4 5 7 61 = true := by decide +kernel
theorem exA_5 : exA 3 4 5 11 61 = true := by decide +kernel
theorem exA_6 : exA 3 4 5 13 61 = true := by decide +kernel
theorem exA_7 : exA 3 4 5 14 61 = true := by decide +kernel
theorem exA_8 : exA 3 5 6 7 61 = true := by decide +kernel
theorem exA_9 : exA 3 5 7 11 61 = true := by decide +kernel
theorem exA_10 : exA 4 5 6 7 61 = true := by decide +kernel
theorem exA_11 : exA 4 5 6 13 61 = true := by decide +kernel
