/-! CLASS: the reckoning. -/
def frc (n : Nat) (k : Nat → Bool) : Bool := match n with
  | 0 => k 0
  | n + 1 => k (n + 1)
theorem frc_eq (n : Nat) (k : Nat → Bool) : frc n k = k n := by cases n <;> rfl
def L27 : List Nat := [0, 1, 2, 3, 4, 5, 6, 7, 8, 9, 10, 11, 12, 13, 14, 15, 16, 17, 18, 19, 20, 21, 22, 23, 24, 25, 26]
def bitB (m i : Nat) : Bool := Nat.beq (Nat.land (Nat.shiftRight m i) 1) 1
def lk (t r : Nat) : Nat := Nat.land (Nat.shiftRight t (5 * r)) 31
def ixC (c : Nat) : Nat := Nat.land (Nat.shiftRight IXM (9 * c)) 511
def pw (b0 b1 b2 : Nat) : Nat → Nat → Nat → Nat → Bool
  | 0, _, _, _ => true
  | n + 1, x, y, z => frc (rimg x b0 b1 b2) fun x' => Nat.ble x' 26 && frc (rimg y b0 b1 b2) fun y' => Nat.ble y' 26 && frc (rimg z b0 b1 b2) fun z' => Nat.ble z' 26 && pw b0 b1 b2 n x' y' z'
def dI (r0 r1 r2 : Nat) : Int := (((r0 / 9 : Nat) : Int) - 1) * ((((r1 / 3 % 3 : Nat) : Int) - 1) * (((r2 % 3 : Nat) : Int) - 1) - (((r1 % 3 : Nat) : Int) - 1) * (((r2 / 3 % 3 : Nat) : Int) - 1)) - (((r0 / 3 % 3 : Nat) : Int) - 1) * ((((r1 / 9 : Nat) : Int) - 1) * (((r2 % 3 : Nat) : Int) - 1) - (((r1 % 3 : Nat) : Int) - 1) * (((r2 / 9 : Nat) : Int) - 1)) + (((r0 % 3 : Nat) : Int) - 1) * ((((r1 / 9 : Nat) : Int) - 1) * (((r2 / 3 % 3 : Nat) : Int) - 1) - (((r1 / 3 % 3 : Nat) : Int) - 1) * (((r2 / 9 : Nat) : Int) - 1))
def uD : En := (0, 0, 0, 0, 0)
def uAt (i : Nat) : En := cond (Nat.ble 200 i) (cond (Nat.ble 400 i) (UL4.getD (i - 400) uD) (cond (Nat.ble 300 i) (UL3.getD (i - 300) uD) (UL2.getD (i - 200) uD))) (cond (Nat.ble 100 i) (UL1.getD (i - 100) uD) (UL0.getD i uD))
def k0 (r0 : Nat) : Bool := L27.all fun r1 => L27.all fun r2 => cond (pw r0 r1 r2 4 r0 r1 r2) (cond (decide (dI r0 r1 r2 = 1)) (Nat.beq (cod r0 r1 r2) 16484 || frc (ixC (cod r0 r1 r2)) fun i => Nat.ble i 478 && (Nat.beq (uAt i).1 r0 && (Nat.beq (uAt i).2.1 r1 && Nat.beq (uAt i).2.2.1 r2))) true) true
def k1 (l : List En) : Bool := l.all fun e => L27.all fun r => Nat.beq (lk e.2.2.2.1 r) (rimg r e.1 e.2.1 e.2.2.1)
def k2a (v : En) : Nat → List En → Bool
  | _, [] => true
  | j, u :: l => (frc (lk u.2.2.2.1 v.1) fun x => frc (lk u.2.2.2.1 v.2.1) fun y => frc (lk u.2.2.2.1 v.2.2.1) fun z => cond (Nat.ble x 26 && (Nat.ble y 26 && (Nat.ble z 26 && Nat.ble (ixC (cod x y z)) 510))) (bitB v.2.2.2.2 j) true) && frc (j + 1) fun j' => k2a v j' l
def k2 (l : List En) : Bool := l.all fun v => k2a v 0 UL0 && (k2a v 100 UL1 && (k2a v 200 UL2 && (k2a v 300 UL3 && k2a v 400 UL4)))
set_option maxRecDepth 100000
theorem k0_0 : ([0, 1, 2, 3, 4, 5, 6, 7, 8] : List Nat).all k0 = true := by decide +kernel
theorem k0_1 : ([9, 10, 11, 12, 13, 14, 15, 16, 17] : List Nat).all k0 = true := by decide +kernel
theorem k0_2 : ([18, 19, 20, 21, 22, 23, 24, 25, 26] : List Nat).all k0 = true := by decide +kernel
theorem k1_0 : k1 UL0 = true := by decide +kernel
theorem k1_1 : k1 UL1 = true := by decide +kernel
theorem k1_2 : k1 UL2 = true := by decide +kernel
theorem k1_3 : k1 UL3 = true := by decide +kernel
theorem k1_4 : k1 UL4 = true := by decide +kernel
theorem k2_0 : k2 UL0 = true := by decide +kernel
theorem k2_1 : k2 UL1 = true := by decide +kernel
theorem k2_2 : k2 UL2 = true := by decide +kernel
theorem k2_3 : k2 UL3 = true := by decide +kernel
theorem k2_4 : k2 UL4 = true := by decide +kernel
