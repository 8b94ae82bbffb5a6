/-! What the bench reads and reckons. -/
def rd (k : Int) (g : Nat → Int) : Nat → Int := fun j => if j < 9 then mdg k j else g j
def nnT (k : Int) : Nat → Int
  | 0 => k / 13824
  | t + 1 => nnT k t / 3
theorem nnT_mdg {k : Int} {t : Nat} (ht : t < 9) : nnT k t % 3 - 1 = mdg k (8 - t) := by
  rcases (show t = 0 ∨ t = 1 ∨ t = 2 ∨ t = 3 ∨ t = 4 ∨ t = 5 ∨ t = 6 ∨ t = 7 ∨ t = 8 by omega) with rfl | rfl | rfl | rfl | rfl | rfl | rfl | rfl | rfl <;> simp only [nnT, mdg, p3, Nat.reduceSub, List.getD_cons_zero, List.getD_cons_succ] <;> omega
theorem nnT_rng {k : Int} (h : 0 ≤ k ∧ k < 2147483648) : ∀ t, 0 ≤ nnT k t ∧ nnT k t < 2147483648
  | 0 => by unfold nnT; omega
  | t + 1 => by
    have := nnT_rng h t
    unfold nnT
    omega
def rdT (k : Int) (g : Nat → Int) (t : Nat) : Nat → Int := fun j => if 9 - t ≤ j ∧ j < 9 then mdg k j else g j
theorem rdT_0 (k : Int) (g : Nat → Int) : rdT k g 0 = g := by
  funext j
  unfold rdT
  rw [if_neg (by omega)]
theorem rdT_9 (k : Int) (g : Nat → Int) : rdT k g 9 = rd k g := by
  funext j
  unfold rdT rd
  by_cases h : j < 9
  · rw [if_pos h, if_pos (by omega)]
  · rw [if_neg h, if_neg (by omega)]
theorem rdT_s {k : Int} {g : Nat → Int} {t : Nat} (ht : t < 9) : zu (rdT k g t) (8 - (t : Int)).toNat (nnT k t % 3 - 1) = rdT k g (t + 1) := by
  funext j
  rw [nnT_mdg ht, show (8 - (t : Int)).toNat = 8 - t by omega]
  unfold zu rdT
  by_cases h : j = 8 - t
  · rw [if_pos h, if_pos (by omega), h]
  · rw [if_neg h]
    by_cases h2 : 9 - t ≤ j ∧ j < 9
    · rw [if_pos h2, if_pos (by omega)]
    · rw [if_neg h2, if_neg (by omega)]
theorem mul_in1 {a b : Int} (ha : -1 ≤ a ∧ a ≤ 1) (hb : -1 ≤ b ∧ b ≤ 1) : -1 ≤ a * b ∧ a * b ≤ 1 := by
  rcases (show a = -1 ∨ a = 0 ∨ a = 1 by omega) with rfl | rfl | rfl <;> omega
theorem mul_in2 {a b n : Int} (ha : -1 ≤ a ∧ a ≤ 1) (hb : -n ≤ b ∧ b ≤ n) : -n ≤ a * b ∧ a * b ≤ n := by
  rcases (show a = -1 ∨ a = 0 ∨ a = 1 by omega) with rfl | rfl | rfl <;> omega
theorem det_rng (k : Int) : -6 ≤ detF (mdg k) ∧ detF (mdg k) ≤ 6 := by
  unfold detF
  have a := mul_in2 (n := 2) (mdg_in k 0) (b := mdg k 4 * mdg k 8 - mdg k 5 * mdg k 7) (by have := mul_in1 (mdg_in k 4) (mdg_in k 8); have := mul_in1 (mdg_in k 5) (mdg_in k 7); omega)
  have b := mul_in2 (n := 2) (mdg_in k 1) (b := mdg k 3 * mdg k 8 - mdg k 5 * mdg k 6) (by have := mul_in1 (mdg_in k 3) (mdg_in k 8); have := mul_in1 (mdg_in k 5) (mdg_in k 6); omega)
  have c := mul_in2 (n := 2) (mdg_in k 2) (b := mdg k 3 * mdg k 7 - mdg k 4 * mdg k 6) (by have := mul_in1 (mdg_in k 3) (mdg_in k 7); have := mul_in1 (mdg_in k 4) (mdg_in k 6); omega)
  omega
def trK (k : Int) : Int := mdg k 0 + mdg k 4 + mdg k 8
theorem tr_rng (k : Int) : -3 ≤ trK k ∧ trK k ≤ 3 := by
  unfold trK
  have := mdg_in k 0
  have := mdg_in k 4
  have := mdg_in k 8
  omega
/-- the SORT of a key's MATRIX -/
def sortK (k : Int) : Int := if detF (mdg k) = 1 ∨ detF (mdg k) = -1 then (if 0 ≤ detF (mdg k) * trK k + 1 ∧ detF (mdg k) * trK k + 1 < 5 then detF (mdg k) * st_sorts.getD (detF (mdg k) * trK k + 1).toNat 0 else 0) else 0
theorem prodD_rng (p q : Int) (t : Nat) : -3 ≤ prodD p q t ∧ prodD p q t ≤ 3 := by
  unfold prodD
  have := mul_in1 (mdg_in p (t / 3 * 3)) (mdg_in q (t % 3))
  have := mul_in1 (mdg_in p (t / 3 * 3 + 1)) (mdg_in q (t % 3 + 3))
  have := mul_in1 (mdg_in p (t / 3 * 3 + 2)) (mdg_in q (t % 3 + 6))
  omega
/-- one of the three numbers that a PLACE is taken to, before the remainder -/
theorem line_rng {a b c x y z s : Int} (ha : -1 ≤ a ∧ a ≤ 1) (hb : -1 ≤ b ∧ b ≤ 1) (hc : -1 ≤ c ∧ c ≤ 1) (hx : 0 ≤ x ∧ x < 24) (hy : 0 ≤ y ∧ y < 24) (hz : 0 ≤ z ∧ z < 24) (hs : 0 ≤ s ∧ s < 24) : -69 ≤ a * x + b * y + c * z + s ∧ a * x + b * y + c * z + s ≤ 92 := by
  have := mul_in2 (n := 23) ha (b := x) (by omega)
  have := mul_in2 (n := 23) hb (b := y) (by omega)
  have := mul_in2 (n := 23) hc (b := z) (by omega)
  omega
theorem rd_in (k : Int) (g : Nat → Int) : ∀ j, j < 9 → -1 ≤ rd k g j ∧ rd k g j ≤ 1 := fun j hj => by
  unfold rd
  rw [if_pos hj]
  exact mdg_in k j
theorem rd_at {k : Int} {g : Nat → Int} {j : Nat} (hj : j < 9) : rd k g j = mdg k j := if_pos hj
theorem prod_at {p q : Int} {gl gr : Nat → Int} {rr c : Nat} (hr : rr < 3) (hc : c < 3) : rd p gl (3 * (rr : Int)).toNat * rd q gr c + rd p gl (3 * (rr : Int) + 1).toNat * rd q gr ((c : Int) + 3).toNat + rd p gl (3 * (rr : Int) + 2).toNat * rd q gr ((c : Int) + 6).toNat = prodD p q (3 * rr + c) := by
  rw [show (3 * (rr : Int)).toNat = 3 * rr by omega, show (3 * (rr : Int) + 1).toNat = 3 * rr + 1 by omega, show (3 * (rr : Int) + 2).toNat = 3 * rr + 2 by omega, show ((c : Int) + 3).toNat = c + 3 by omega, show ((c : Int) + 6).toNat = c + 6 by omega]
  rw [rd_at (by omega), rd_at (by omega), rd_at (by omega), rd_at (by omega), rd_at (by omega), rd_at (by omega)]
  unfold prodD
  rw [show (3 * rr + c) / 3 * 3 = 3 * rr by omega, show (3 * rr + c) % 3 = c by omega]
/-- powers -/
def powK (k : Int) : Nat → Int
  | 0 => u0
  | 1 => k
  | n + 2 => timesK (powK k (n + 1)) k
theorem powK_s {k : Int} {n : Nat} (h : 1 ≤ n) : powK k (n + 1) = timesK (powK k n) k := by
  cases n with
  | zero => omega
  | succ n => rfl
/-- how often it is done until all PLACES are left, if that is so within 192 -/
def trn (k z : Int) : Prop := (1 ≤ z ∧ z ≤ 192 ∧ powK k z.toNat = u0 ∧ ∀ j : Nat, 1 ≤ j → (j : Int) < z → powK k j ≠ u0) ∨ (z = -1 ∧ ((∃ j : Nat, 1 ≤ j ∧ j ≤ 193 ∧ powK k j = -1) ∨ ∀ j : Nat, 1 ≤ j → j ≤ 192 → powK k j ≠ u0))
theorem times_rng {p q : Int} : timesK p q = -1 ∨ kOK (timesK p q) := by
  by_cases h : timesK p q = -1
  · exact Or.inl h
  · exact Or.inr (times_digits h).1
