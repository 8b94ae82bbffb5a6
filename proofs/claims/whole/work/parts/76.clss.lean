/-! CLASS: whoever goes together lies in one of 39. -/
set_option maxRecDepth 100000
def uS (j : Nat) : Nat := (uAt j).2.2.2.2
def addV (tv cand : Nat) (k : Nat → Bool) : List Nat → Nat → Bool
  | [], c2 => k c2
  | w :: l, c2 => frc (lk tv (w / 729)) fun x => frc (lk tv (w / 27 % 27)) fun y => frc (lk tv (w % 27)) fun z => cond (Nat.ble x 26 && (Nat.ble y 26 && Nat.ble z 26)) (frc (ixC (cod x y z)) fun j => cond (Nat.beq j 511) true (cond (Nat.beq j 510) (addV tv cand k l c2) (cond (bitB cand j) (frc (Nat.land c2 (uS j)) fun c3 => addV tv cand k l c3) true))) true
def uC (i : Nat) : Nat := cod (uAt i).1 (uAt i).2.1 (uAt i).2.2.1
def srch : Nat → Nat → List Nat → Nat → Bool
  | 0, _, _, _ => false
  | f + 1, cand, dec, dm => (GMs.any fun G => Nat.beq (Nat.land cand G) cand) || frc (Nat.xor cand (Nat.land cand dm)) fun r => Nat.ble 1 r && frc (Nat.log2 r) fun v => (frc (uAt v).2.2.2.1 fun tv => frc (Nat.land cand (uS v)) fun c0 => frc (uC v) fun cv => addV tv cand (fun c2 => frc (Nat.lor dm (Nat.shiftLeft 1 v)) fun dm' => srch f c2 (cv :: dec) dm') dec c0) && frc (Nat.xor cand (Nat.shiftLeft 1 v)) fun c1 => srch f c1 dec dm
def full : Nat := Nat.shiftLeft 1 479 - 1
theorem srch_t : srch 2000 full [] 0 = true := by decide +kernel
