/-! CLASS: each greatest one goes by its table. -/
set_option maxRecDepth 100000
def isoG (tb : Nat → Nat → Nat) (so : List Int) (rg rh cs : List Nat) : Bool := rg.all (fun a => decide (sortK (kN (cs.getD a 0)) = so.getD a 0) && Nat.ble (cs.getD a 0) 19682) && rh.all fun a => frc (cs.getD a 0) fun ca => rh.all fun b => Nat.beq (mulC ca (cs.getD b 0)) (cs.getD (tb a b) 0)
def isoC (g : Nat × List Nat) : Bool := cond (Nat.beq g.1 0) (Nat.beq g.2.length 48 && (isoG tbO SO rg48 rg24 g.2 && rg24.all fun a => Nat.beq (g.2.getD (a + 24) 0) (19682 - g.2.getD a 0))) (Nat.beq g.2.length 24 && (isoG tbD SD rg24 rg12 g.2 && rg12.all fun a => Nat.beq (g.2.getD (a + 12) 0) (19682 - g.2.getD a 0)))
theorem iso_0 : (CSm.take 10).all isoC = true := by decide +kernel
theorem iso_1 : ((CSm.drop 10).take 10).all isoC = true := by decide +kernel
theorem iso_2 : ((CSm.drop 20).take 10).all isoC = true := by decide +kernel
theorem iso_3 : (CSm.drop 30).all isoC = true := by decide +kernel
theorem sgn_O : rg24.all (fun a => rg24.all fun b => Nat.ble (tbO a b) 23 && (Nat.beq (tbO (a + 24) b) (tbO a b + 24) && (Nat.beq (tbO a (b + 24)) (tbO a b + 24) && Nat.beq (tbO (a + 24) (b + 24)) (tbO a b)))) = true := by decide +kernel
theorem sgn_D : rg12.all (fun a => rg12.all fun b => Nat.ble (tbD a b) 11 && (Nat.beq (tbD (a + 12) b) (tbD a b + 12) && (Nat.beq (tbD a (b + 12)) (tbD a b + 12) && Nat.beq (tbD (a + 12) (b + 12)) (tbD a b)))) = true := by decide +kernel
/-- the masks of the 39 are these MATRICES -/
def mskC (n : Nat) (gc : Nat × (Nat × List Nat)) : Bool := cond (bitB gc.1 n) (gc.2.2.contains (uC n)) true
def up : Nat → Nat → (Nat → Bool) → Bool
  | 0, _, _ => true
  | k + 1, n, f => f n && frc (n + 1) fun n' => up k n' f
theorem msk_t : (GMs.zip CSm).all (fun gc => up 479 0 fun n => mskC n gc) = true := by decide +kernel
