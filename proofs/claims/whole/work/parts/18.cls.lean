/-! Counting MATRICES, CENTRINGS, SORTS along a row; the LETTER. -/
def digK (s : Int) : Int := if s = 2 then 100000000 else if s = 3 then 10000000 else if s = 4 then 1000000 else if s = 6 then 100000 else if s = -1 then 10000 else if s = -2 then 1000 else if s = -3 then 100 else if s = -4 then 10 else if s = -6 then 1 else 0
def bef (ks : List Int) (i : Nat) : Int := if i = 0 then -1 else ks.getD (i - 1) (-1) / 13824
def rowT (ks : List Int) : Nat → Int
  | 0 => 0
  | i + 1 => rowT ks i + if ks.getD i (-1) / 13824 = bef ks i then 0 else digK (sortK (ks.getD i (-1)))
def matT (ks : List Int) : Nat → Int
  | 0 => 0
  | i + 1 => matT ks i + if ks.getD i (-1) / 13824 = bef ks i then 0 else 1
def cenT (ks : List Int) : Nat → Int
  | 0 => 0
  | i + 1 => cenT ks i + if ks.getD i (-1) / 13824 = 16484 then 1 else 0
theorem bef_s (ks : List Int) (i : Nat) : bef ks (i + 1) = ks.getD i (-1) / 13824 := by
  unfold bef
  rw [if_neg (by omega)]
  rfl
theorem sort_rng (k : Int) : -6 ≤ sortK k ∧ sortK k ≤ 6 := by
  unfold sortK
  by_cases h : detF (mdg k) = 1 ∨ detF (mdg k) = -1
  · rw [if_pos h]
    by_cases h2 : 0 ≤ detF (mdg k) * trK k + 1 ∧ detF (mdg k) * trK k + 1 < 5
    · rw [if_pos h2]
      have : ∀ n : Nat, n < 5 → 0 ≤ st_sorts.getD n 0 ∧ st_sorts.getD n 0 ≤ 6 := by decide
      have h3 := this (detF (mdg k) * trK k + 1).toNat (by omega)
      exact mul_in2 (n := 6) (by omega) (by omega)
    · rw [if_neg h2]; omega
  · rw [if_neg h]; omega
theorem dig_rng (s : Int) : 0 ≤ digK s ∧ digK s ≤ 100000000 := by
  unfold digK
  repeat' split
  all_goals omega
theorem matT_rng (ks : List Int) : ∀ i : Nat, 0 ≤ matT ks i ∧ matT ks i ≤ (i : Int)
  | 0 => by simp [matT]
  | i + 1 => by
    have := matT_rng ks i
    unfold matT
    split <;> omega
theorem cenT_rng (ks : List Int) : ∀ i : Nat, 0 ≤ cenT ks i ∧ cenT ks i ≤ (i : Int)
  | 0 => by simp [cenT]
  | i + 1 => by
    have := cenT_rng ks i
    unfold cenT
    split <;> omega
/-- the CLASS, by the row -/
def clsF (r z : Int) : Prop := (∃ i : Nat, i < 32 ∧ st_rows.getD i 0 = r ∧ z = (i : Int) + 1 ∧ ∀ j, j < i → st_rows.getD j 0 ≠ r) ∨ (z = -1 ∧ ∀ j, j < 32 → st_rows.getD j 0 ≠ r)
theorem rows_rng : ∀ j, j < 32 → 0 ≤ st_rows.getD j 0 ∧ st_rows.getD j 0 < 1000000000 := by decide
def let2 (s : Int) : Int := if s = 300 then 1 else if s = 6924 then 2 else if s = 7200 then 3 else if s = 7212 then 4 else 8
/-- the LETTER as the class finds it: by the OPERATIONS behind the one that leaves all, whose place is i -/
def letK (ks : List Int) (i c : Int) : Int :=
  if c = 1 then 0 else if c = 2 then let2 (lat ks (i + 1) - u0)
  else if c = 3 then (if lat ks (i + 1) - u0 = 5008 ∧ lat ks (i + 2) - u0 = 9416 then 6 else if lat ks (i + 1) - u0 = 5000 ∧ lat ks (i + 2) - u0 = 9424 then 7 else 8)
  else if c = 4 then (if lat ks (i + 1) - u0 = 300 ∧ lat ks (i + 2) - u0 = 6924 ∧ lat ks (i + 3) - u0 = 7200 then 5 else 8) else 8
theorem lat_bd {n : Nat} {f : Nat → Int} {ks : List Int} (h : rowOK n f ks) (k : Int) : -2147483648 ≤ lat ks k - 227874816 ∧ lat ks k - 227874816 < 2147483648 := by
  have := h.latr k
  omega
