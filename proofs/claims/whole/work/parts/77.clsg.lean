/-! CLASS: within the greatest ones, all closed parts, by one table each. -/
set_option maxRecDepth 100000
def tbO (a b : Nat) : Nat := Nat.land (Nat.shiftRight TOn (6 * (48 * a + b))) 63
def tbD (a b : Nat) : Nat := Nat.land (Nat.shiftRight TDn (6 * (24 * a + b))) 63
def pshG (tb : Nat → Nat → Nat) (x inn : Nat) : List Nat → List Nat → List Nat
  | [], l => l
  | g :: r, l => cond (bitB inn (tb x g)) (pshG tb x inn r l) (pshG tb x inn r (tb x g :: l))
def pshA (tb : Nat → Nat → Nat) (v inn : Nat) : List Nat → List Nat → List Nat
  | [], l => l
  | a :: r, l => cond (bitB inn a) (cond (bitB inn (tb a v)) (pshA tb v inn r l) (pshA tb v inn r (tb a v :: l))) (pshA tb v inn r l)
def gsr (N : Nat) (rg : List Nat) (tb : Nat → Nat → Nat) (ok : Nat → Bool) : Nat → Nat → Nat → List Nat → List Nat → Bool
  | 0, _, _, _, _ => false
  | f + 1, inn, out, gs, [] => frc (Nat.xor (Nat.shiftLeft 1 N - 1) (Nat.lor inn out)) fun r => cond (Nat.beq r 0) (ok inn) (frc (Nat.log2 r) fun v => gsr N rg tb ok f inn out (v :: gs) (v :: pshA tb v inn rg []) && frc (Nat.lor out (Nat.shiftLeft 1 v)) fun out' => gsr N rg tb ok f inn out' gs [])
  | f + 1, inn, out, gs, x :: l => frc x fun v => cond (bitB inn v) (gsr N rg tb ok f inn out gs l) (cond (bitB out v) true (frc (Nat.lor inn (Nat.shiftLeft 1 v)) fun inn' => gsr N rg tb ok f inn' out gs (pshG tb v inn' gs l)))
def cntS (so : List Int) (rg : List Nat) (m : Nat) (t : Int) : Nat := (rg.filter fun j => bitB m j && decide (so.getD j 0 = t)).length
def row9 : List (List Nat) := [[0, 0, 0, 0, 0, 0, 0, 0, 0], [0, 0, 0, 0, 1, 0, 0, 0, 0], [1, 0, 0, 0, 0, 0, 0, 0, 0], [0, 0, 0, 0, 0, 1, 0, 0, 0], [1, 0, 0, 0, 1, 1, 0, 0, 0], [3, 0, 0, 0, 0, 0, 0, 0, 0], [1, 0, 0, 0, 0, 2, 0, 0, 0], [3, 0, 0, 0, 1, 3, 0, 0, 0], [1, 0, 2, 0, 0, 0, 0, 0, 0], [1, 0, 0, 0, 0, 0, 0, 2, 0], [1, 0, 2, 0, 1, 1, 0, 2, 0], [5, 0, 2, 0, 0, 0, 0, 0, 0], [1, 0, 2, 0, 0, 4, 0, 0, 0], [3, 0, 0, 0, 0, 2, 0, 2, 0], [5, 0, 2, 0, 1, 5, 0, 2, 0], [0, 2, 0, 0, 0, 0, 0, 0, 0], [0, 2, 0, 0, 1, 0, 2, 0, 0], [3, 2, 0, 0, 0, 0, 0, 0, 0], [0, 2, 0, 0, 0, 3, 0, 0, 0], [3, 2, 0, 0, 1, 3, 2, 0, 0], [1, 2, 0, 2, 0, 0, 0, 0, 0], [0, 2, 0, 0, 0, 1, 0, 0, 2], [1, 2, 0, 2, 1, 1, 2, 0, 2], [7, 2, 0, 2, 0, 0, 0, 0, 0], [1, 2, 0, 2, 0, 6, 0, 0, 0], [3, 2, 0, 0, 0, 4, 0, 0, 2], [7, 2, 0, 2, 1, 7, 2, 0, 2], [3, 8, 0, 0, 0, 0, 0, 0, 0], [3, 8, 0, 0, 1, 3, 8, 0, 0], [9, 8, 6, 0, 0, 0, 0, 0, 0], [3, 8, 0, 0, 0, 6, 0, 6, 0], [9, 8, 6, 0, 1, 9, 8, 6, 0]]
def cnt9 (so : List Int) (rg : List Nat) (m : Nat) : List Nat := [cntS so rg m 2, cntS so rg m 3, cntS so rg m 4, cntS so rg m 6, cntS so rg m (-1), cntS so rg m (-2), cntS so rg m (-3), cntS so rg m (-4), cntS so rg m (-6)]
def okR (so : List Int) (rg : List Nat) (m : Nat) : Bool := row9.any fun r => decide (r = cnt9 so rg m)
def rg48 : List Nat := [0, 1, 2, 3, 4, 5, 6, 7, 8, 9, 10, 11, 12, 13, 14, 15, 16, 17, 18, 19, 20, 21, 22, 23, 24, 25, 26, 27, 28, 29, 30, 31, 32, 33, 34, 35, 36, 37, 38, 39, 40, 41, 42, 43, 44, 45, 46, 47]
def rg24 : List Nat := [0, 1, 2, 3, 4, 5, 6, 7, 8, 9, 10, 11, 12, 13, 14, 15, 16, 17, 18, 19, 20, 21, 22, 23]
def rg12 : List Nat := [0, 1, 2, 3, 4, 5, 6, 7, 8, 9, 10, 11]
theorem gsr_D : gsr 24 rg24 tbD (okR SD rg24) 100000 0 0 [] [0] = true := by decide +kernel
theorem gsr_O : gsr 48 rg48 tbO (okR SO rg48) 100000 0 0 [] [0] = true := by decide +kernel
theorem bitB_eq (m i : Nat) : bitB m i = m.testBit i := by
  unfold bitB
  rw [Nat.testBit_eq_decide_div_mod_eq]
  show Nat.beq ((m >>> i) &&& 1) 1 = _
  rw [Nat.and_one_is_mod, Nat.shiftRight_eq_div_pow]
  by_cases h : m / 2 ^ i % 2 = 1
  · rw [h]; rfl
  · rw [decide_eq_false h]
    have : m / 2 ^ i % 2 = 0 := by omega
    rw [this]; rfl
theorem and_t {a b : Bool} : (a && b) = true ↔ a = true ∧ b = true := by cases a <;> cases b <;> simp
