/-! CLASS: MATRICES as numbers below 19683, for reckoning. -/
def entN (x0 x1 x2 y0 y1 y2 : Nat) : Nat := cond (Nat.ble (x0 + x1 + x2 + (y0 + y1 + y2)) (x0 * y0 + x1 * y1 + x2 * y2 + 4)) (x0 * y0 + x1 * y1 + x2 * y2 + 4 - (x0 + x1 + x2 + (y0 + y1 + y2))) 3
def row3 (e0 e1 e2 : Nat) : Nat := cond (Nat.ble e0 2 && (Nat.ble e1 2 && Nat.ble e2 2)) (9 * e0 + 3 * e1 + e2) 31
def rimg (r b0 b1 b2 : Nat) : Nat := row3 (entN (r / 9) (r / 3 % 3) (r % 3) (b0 / 9) (b1 / 9) (b2 / 9)) (entN (r / 9) (r / 3 % 3) (r % 3) (b0 / 3 % 3) (b1 / 3 % 3) (b2 / 3 % 3)) (entN (r / 9) (r / 3 % 3) (r % 3) (b0 % 3) (b1 % 3) (b2 % 3))
def rw3 (n i : Nat) : Nat := if i = 0 then n / 729 else if i = 1 then n / 27 % 27 else n % 27
def cod (x y z : Nat) : Nat := 729 * x + 27 * y + z
theorem cod_rw (n : Nat) : cod (rw3 n 0) (rw3 n 1) (rw3 n 2) = n := by
  show 729 * (n / 729) + 27 * (n / 27 % 27) + n % 27 = n
  omega
theorem rw_cod {x y z : Nat} (hy : y < 27) (hz : z < 27) : rw3 (cod x y z) 0 = x ∧ rw3 (cod x y z) 1 = y ∧ rw3 (cod x y z) 2 = z := by
  show (729 * x + 27 * y + z) / 729 = x ∧ (729 * x + 27 * y + z) / 27 % 27 = y ∧ (729 * x + 27 * y + z) % 27 = z
  omega
theorem rw_lt {n : Nat} (h : n < 19683) (i : Nat) : rw3 n i < 27 := by
  unfold rw3
  split
  · omega
  · split <;> omega
theorem ent_ok : ∀ x0 : Nat, x0 < 3 → ∀ x1 : Nat, x1 < 3 → ∀ x2 : Nat, x2 < 3 → ∀ y0 : Nat, y0 < 3 → ∀ y1 : Nat, y1 < 3 → ∀ y2 : Nat, y2 < 3 → (-1 ≤ ((x0 : Int) - 1) * ((y0 : Int) - 1) + ((x1 : Int) - 1) * ((y1 : Int) - 1) + ((x2 : Int) - 1) * ((y2 : Int) - 1) ∧ ((x0 : Int) - 1) * ((y0 : Int) - 1) + ((x1 : Int) - 1) * ((y1 : Int) - 1) + ((x2 : Int) - 1) * ((y2 : Int) - 1) ≤ 1) → (entN x0 x1 x2 y0 y1 y2 : Int) = ((x0 : Int) - 1) * ((y0 : Int) - 1) + ((x1 : Int) - 1) * ((y1 : Int) - 1) + ((x2 : Int) - 1) * ((y2 : Int) - 1) + 1 := by 
  intro x0 h0 x1 h1 x2 h2
  rcases (show x0 = 0 ∨ x0 = 1 ∨ x0 = 2 by omega) with rfl | rfl | rfl <;> rcases (show x1 = 0 ∨ x1 = 1 ∨ x1 = 2 by omega) with rfl | rfl | rfl <;> rcases (show x2 = 0 ∨ x2 = 1 ∨ x2 = 2 by omega) with rfl | rfl | rfl <;> decide +kernel
/-- the key of a MATRIX alone -/
def kN (n : Nat) : Int := 13824 * (n : Int)
theorem kN_ok {n : Nat} (h : n < 19683) : kOK (kN n) := by unfold kOK kN; omega
theorem mdg_kN {n : Nat} (i : Nat) (hi : i < 3) : mdg (kN n) (3 * i) = ((rw3 n i / 9 : Nat) : Int) % 3 - 1 ∧ mdg (kN n) (3 * i + 1) = ((rw3 n i / 3 % 3 : Nat) : Int) - 1 ∧ mdg (kN n) (3 * i + 2) = ((rw3 n i % 3 : Nat) : Int) - 1 := by
  unfold mdg kN
  rw [show (13824 * (n : Int)) / 13824 = (n : Int) by omega]
  rcases (show i = 0 ∨ i = 1 ∨ i = 2 by omega) with rfl | rfl | rfl <;> simp only [p3, rw3, List.getD_cons_zero, List.getD_cons_succ, Nat.reduceMul, Nat.reduceAdd, if_true, if_false, Nat.reduceEqDiff, Nat.succ_ne_self] <;> refine ⟨?_, ?_, ?_⟩ <;> omega
theorem mdg_kN3 {n : Nat} (h : n < 19683) (i : Nat) (hi : i < 3) : mdg (kN n) (3 * i) = ((rw3 n i / 9 : Nat) : Int) - 1 ∧ mdg (kN n) (3 * i + 1) = ((rw3 n i / 3 % 3 : Nat) : Int) - 1 ∧ mdg (kN n) (3 * i + 2) = ((rw3 n i % 3 : Nat) : Int) - 1 := by
  obtain ⟨h1, h2, h3⟩ := mdg_kN (n := n) i hi
  have := rw_lt h i
  exact ⟨by rw [h1]; omega, h2, h3⟩
theorem rimg_ok {a b c i : Nat} (ha : a < 19683) (hb : b < 19683) (hc : c < 19683) (hi : i < 3) (e : timesK (kN a) (kN b) = kN c) : rimg (rw3 a i) (rw3 b 0) (rw3 b 1) (rw3 b 2) = rw3 c i := by
  have hne : timesK (kN a) (kN b) ≠ -1 := by rw [e]; unfold kN; omega
  have hin := times_ne.mp hne
  have hd := (times_digits hne).2.1
  rw [e] at hd
  obtain ⟨a0, a1, a2⟩ := mdg_kN3 ha i hi
  obtain ⟨c0, c1, c2⟩ := mdg_kN3 hc i hi
  have b0 := mdg_kN3 hb 0 (by omega)
  have b1 := mdg_kN3 hb 1 (by omega)
  have b2 := mdg_kN3 hb 2 (by omega)
  have ra := rw_lt ha i
  have rb0 := rw_lt hb 0
  have rb1 := rw_lt hb 1
  have rb2 := rw_lt hb 2
  have rc := rw_lt hc i
  have key : ∀ j, j < 3 → prodD (kN a) (kN b) (3 * i + j) = mdg (kN a) (3 * i) * mdg (kN b) j + mdg (kN a) (3 * i + 1) * mdg (kN b) (j + 3) + mdg (kN a) (3 * i + 2) * mdg (kN b) (j + 6) := fun j hj => prodD_at _ _ hj
  have k0 := key 0 (by omega)
  have k1 := key 1 (by omega)
  have k2 := key 2 (by omega)
  have e0 : mdg (kN c) (3 * i) = prodD (kN a) (kN b) (3 * i) := hd _ (by omega)
  have e1 : mdg (kN c) (3 * i + 1) = prodD (kN a) (kN b) (3 * i + 1) := hd _ (by omega)
  have e2 : mdg (kN c) (3 * i + 2) = prodD (kN a) (kN b) (3 * i + 2) := hd _ (by omega)
  have i0 := hin (3 * i) (by omega)
  have i1 := hin (3 * i + 1) (by omega)
  have i2 := hin (3 * i + 2) (by omega)
  simp only [Nat.mul_zero, Nat.zero_add, Nat.mul_one, Nat.reduceMul, Nat.reduceAdd, Nat.add_zero] at b0 b1 b2 k0 k1 k2
  rw [a0, a1, a2, b0.1, b1.1, b2.1] at k0
  rw [a0, a1, a2, b0.2.1, b1.2.1, b2.2.1] at k1
  rw [a0, a1, a2, b0.2.2, b1.2.2, b2.2.2] at k2
  rw [k0] at i0 e0
  rw [k1] at i1 e1
  rw [k2] at i2 e2
  have f0 := ent_ok _ (show rw3 a i / 9 < 3 by omega) _ (show rw3 a i / 3 % 3 < 3 by omega) _ (show rw3 a i % 3 < 3 by omega) _ (show rw3 b 0 / 9 < 3 by omega) _ (show rw3 b 1 / 9 < 3 by omega) _ (show rw3 b 2 / 9 < 3 by omega) i0
  have f1 := ent_ok _ (show rw3 a i / 9 < 3 by omega) _ (show rw3 a i / 3 % 3 < 3 by omega) _ (show rw3 a i % 3 < 3 by omega) _ (show rw3 b 0 / 3 % 3 < 3 by omega) _ (show rw3 b 1 / 3 % 3 < 3 by omega) _ (show rw3 b 2 / 3 % 3 < 3 by omega) i1
  have f2 := ent_ok _ (show rw3 a i / 9 < 3 by omega) _ (show rw3 a i / 3 % 3 < 3 by omega) _ (show rw3 a i % 3 < 3 by omega) _ (show rw3 b 0 % 3 < 3 by omega) _ (show rw3 b 1 % 3 < 3 by omega) _ (show rw3 b 2 % 3 < 3 by omega) i2
  rw [← e0, c0] at f0
  rw [← e1, c1] at f1
  rw [← e2, c2] at f2
  unfold rimg
  have g0 : entN (rw3 a i / 9) (rw3 a i / 3 % 3) (rw3 a i % 3) (rw3 b 0 / 9) (rw3 b 1 / 9) (rw3 b 2 / 9) = rw3 c i / 9 := by omega
  have g1 : entN (rw3 a i / 9) (rw3 a i / 3 % 3) (rw3 a i % 3) (rw3 b 0 / 3 % 3) (rw3 b 1 / 3 % 3) (rw3 b 2 / 3 % 3) = rw3 c i / 3 % 3 := by omega
  have g2 : entN (rw3 a i / 9) (rw3 a i / 3 % 3) (rw3 a i % 3) (rw3 b 0 % 3) (rw3 b 1 % 3) (rw3 b 2 % 3) = rw3 c i % 3 := by omega
  rw [g0, g1, g2]
  unfold row3
  rw [Nat.ble_eq_true_of_le (show rw3 c i / 9 ≤ 2 by omega), Nat.ble_eq_true_of_le (show rw3 c i / 3 % 3 ≤ 2 by omega), Nat.ble_eq_true_of_le (show rw3 c i % 3 ≤ 2 by omega)]
  show 9 * (rw3 c i / 9) + 3 * (rw3 c i / 3 % 3) + rw3 c i % 3 = rw3 c i
  omega
/-- a closed set of MATRICES, as numbers -/
def clN (Q : Nat → Prop) : Prop := (∀ n, Q n → n < 19683) ∧ Q 16484 ∧ ∀ a b, Q a → Q b → ∃ c, Q c ∧ timesK (kN a) (kN b) = kN c
def mulC (a b : Nat) : Nat := cod (rimg (rw3 a 0) (rw3 b 0) (rw3 b 1) (rw3 b 2)) (rimg (rw3 a 1) (rw3 b 0) (rw3 b 1) (rw3 b 2)) (rimg (rw3 a 2) (rw3 b 0) (rw3 b 1) (rw3 b 2))
theorem clN.mul {Q : Nat → Prop} (h : clN Q) {a b : Nat} (ha : Q a) (hb : Q b) : Q (mulC a b) ∧ rimg (rw3 a 0) (rw3 b 0) (rw3 b 1) (rw3 b 2) < 27 ∧ rimg (rw3 a 1) (rw3 b 0) (rw3 b 1) (rw3 b 2) < 27 ∧ rimg (rw3 a 2) (rw3 b 0) (rw3 b 1) (rw3 b 2) < 27 := by
  obtain ⟨c, hc, e⟩ := h.2.2 a b ha hb
  have r0 := rimg_ok (h.1 a ha) (h.1 b hb) (h.1 c hc) (i := 0) (by omega) e
  have r1 := rimg_ok (h.1 a ha) (h.1 b hb) (h.1 c hc) (i := 1) (by omega) e
  have r2 := rimg_ok (h.1 a ha) (h.1 b hb) (h.1 c hc) (i := 2) (by omega) e
  unfold mulC
  rw [r0, r1, r2, cod_rw]
  exact ⟨hc, rw_lt (h.1 c hc) 0, rw_lt (h.1 c hc) 1, rw_lt (h.1 c hc) 2⟩
