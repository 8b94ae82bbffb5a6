/-! The reference: pure parts, first. -/
def p3r (i : Nat) : Int := ([1, 3, 9, 27, 81, 243, 729, 2187, 6561, 19683] : List Int).getD i 1
def p24 (i : Nat) : Int := ([1, 24, 576, 13824] : List Int).getD i 1
def sdg (k : Int) (j : Nat) : Int := if j = 0 then pX (k % 13824) else if j = 1 then pY (k % 13824) else pZ (k % 13824)
theorem sdg_in {k : Int} (j : Nat) : 0 ≤ sdg k j ∧ sdg k j < 24 := by
  unfold sdg pX pY pZ
  split
  · omega
  · split <;> omega
theorem nine_dig {k : Int} {i : Nat} (hi : i < 9) : k / 13824 / p3r i % 3 - 1 = mdg k (8 - i) ∧ k / 13824 / p3r i / 3 = k / 13824 / p3r (i + 1) := by
  unfold mdg
  rcases (show i = 0 ∨ i = 1 ∨ i = 2 ∨ i = 3 ∨ i = 4 ∨ i = 5 ∨ i = 6 ∨ i = 7 ∨ i = 8 by omega) with rfl | rfl | rfl | rfl | rfl | rfl | rfl | rfl | rfl <;> (constructor <;> simp only [p3r, p3, List.getD_cons_zero, List.getD_cons_succ, Nat.reduceSub, Nat.reduceAdd] <;> omega)
theorem shift_dig {k : Int} {i : Nat} (hi : i < 3) : k % 13824 / p24 i % 24 = sdg k (2 - i) ∧ k % 13824 / p24 i / 24 = k % 13824 / p24 (i + 1) := by
  have e0 : sdg k 0 = k % 13824 / 576 := rfl
  have e1 : sdg k 1 = k % 13824 / 24 % 24 := rfl
  have e2 : sdg k 2 = k % 13824 % 24 := rfl
  have f0 : p24 0 = 1 := rfl
  have f1 : p24 1 = 24 := rfl
  have f2 : p24 2 = 576 := rfl
  have f3 : p24 3 = 13824 := rfl
  rcases (show i = 0 ∨ i = 1 ∨ i = 2 by omega) with rfl | rfl | rfl
  · rw [f0, f1, e2]; omega
  · rw [f1, f2, e1]; omega
  · rw [f2, f3, e0]; omega
theorem p3r_pos {i : Nat} (hi : i ≤ 9) : 0 < p3r i := by
  rcases (show i = 0 ∨ i = 1 ∨ i = 2 ∨ i = 3 ∨ i = 4 ∨ i = 5 ∨ i = 6 ∨ i = 7 ∨ i = 8 ∨ i = 9 by omega) with rfl | rfl | rfl | rfl | rfl | rfl | rfl | rfl | rfl | rfl <;> decide
theorem p24_pos {i : Nat} (hi : i ≤ 3) : 0 < p24 i := by
  rcases (show i = 0 ∨ i = 1 ∨ i = 2 ∨ i = 3 by omega) with rfl | rfl | rfl | rfl <;> decide
theorem nn_rng {x d : Int} (hx : 0 ≤ x ∧ x < 2147483648) (hd : 0 < d) : 0 ≤ x / d ∧ x / d < 2147483648 := by
  refine ⟨Int.ediv_nonneg hx.1 (Int.le_of_lt hd), ?_⟩
  have := Int.ediv_le_self d hx.1
  omega
theorem prodD_at (p q : Int) {i j : Nat} (hj : j < 3) : prodD p q (3 * i + j) = mdg p (3 * i) * mdg q j + mdg p (3 * i + 1) * mdg q (j + 3) + mdg p (3 * i + 2) * mdg q (j + 6) := by
  unfold prodD
  rw [show (3 * i + j) / 3 * 3 = 3 * i by omega, show (3 * i + j) % 3 = j by omega]
def tshV (p q : Int) (i : Nat) : Int := mdg p (3 * i) * sdg q 0 + mdg p (3 * i + 1) * sdg q 1 + mdg p (3 * i + 2) * sdg q 2 + sdg p i
theorem mul_rng {a b : Int} {N : Int} (ha : -1 ≤ a ∧ a ≤ 1) (hb : -N ≤ b ∧ b ≤ N) : -N ≤ a * b ∧ a * b ≤ N := by
  rcases (show a = -1 ∨ a = 0 ∨ a = 1 by omega) with rfl | rfl | rfl <;> omega
theorem tshV_rng (p q : Int) (i : Nat) : -100 ≤ tshV p q i ∧ tshV p q i ≤ 100 := by
  unfold tshV
  have s := fun j => sdg_in (k := q) j
  have h1 := mul_rng (N := 23) (mdg_in p (3 * i)) (b := sdg q 0) (by have := s 0; omega)
  have h2 := mul_rng (N := 23) (mdg_in p (3 * i + 1)) (b := sdg q 1) (by have := s 1; omega)
  have h3 := mul_rng (N := 23) (mdg_in p (3 * i + 2)) (b := sdg q 2) (by have := s 2; omega)
  have h4 := sdg_in (k := p) i
  omega
theorem times_sh (p q : Int) : 576 * (tshV p q 0 % 24) + 24 * (tshV p q 1 % 24) + tshV p q 2 % 24 = movF (mdg p) (p % 13824) (q % 13824) := by
  unfold movF mk3
  have e0 : tshV p q 0 = mdg p 0 * pX (q % 13824) + mdg p 1 * pY (q % 13824) + mdg p 2 * pZ (q % 13824) + pX (p % 13824) := rfl
  have e1 : tshV p q 1 = mdg p 3 * pX (q % 13824) + mdg p 4 * pY (q % 13824) + mdg p 5 * pZ (q % 13824) + pY (p % 13824) := rfl
  have e2 : tshV p q 2 = mdg p 6 * pX (q % 13824) + mdg p 7 * pY (q % 13824) + mdg p 8 * pZ (q % 13824) + pZ (p % 13824) := rfl
  rw [← e0, ← e1, ← e2]
  omega
theorem times_v {p q z : Int} (hin : ∀ t, t < 9 → -1 ≤ prodD p q t ∧ prodD p q t ≤ 1) (hz : z = 13824 * nineP p q 9 + movF (mdg p) (p % 13824) (q % 13824)) : z = timesK p q := by
  unfold timesK
  rw [if_pos hin, hz]
  omega
theorem times_out {p q : Int} {t : Nat} (ht : t < 9) (h : ¬ (-1 ≤ prodD p q t ∧ prodD p q t ≤ 1)) : timesK p q = -1 := by
  unfold timesK
  rw [if_neg (fun g => h (g t ht))]
def sortR (k : Int) : Int := detF (mdg k) * (if detF (mdg k) * trK k = 3 then 1 else if detF (mdg k) * trK k = -1 then 2 else if detF (mdg k) * trK k = 0 then 3 else if detF (mdg k) * trK k = 1 then 4 else if detF (mdg k) * trK k = 2 then 6 else 0)
theorem trK_rng (k : Int) : -3 ≤ trK k ∧ trK k ≤ 3 := by
  unfold trK
  have h1 := mdg_in k 0
  have h2 := mdg_in k 4
  have h3 := mdg_in k 8
  omega
theorem detF_rng (k : Int) : -6 ≤ detF (mdg k) ∧ detF (mdg k) ≤ 6 := by
  unfold detF
  have m := fun j => mdg_in k j
  have q := fun i j => mul_rng (N := 1) (m i) (m j)
  have a1 := mul_rng (N := 2) (m 0) (b := mdg k 4 * mdg k 8 - mdg k 5 * mdg k 7) (by have := q 4 8; have := q 5 7; omega)
  have a2 := mul_rng (N := 2) (m 1) (b := mdg k 3 * mdg k 8 - mdg k 5 * mdg k 6) (by have := q 3 8; have := q 5 6; omega)
  have a3 := mul_rng (N := 2) (m 2) (b := mdg k 3 * mdg k 7 - mdg k 4 * mdg k 6) (by have := q 3 7; have := q 4 6; omega)
  omega
theorem sortR_eq {k : Int} (h : detF (mdg k) = 1 ∨ detF (mdg k) = -1) : sortR k = sortK k := by
  have ht := trK_rng k
  unfold sortR sortK
  rw [if_pos h]
  generalize detF (mdg k) = d at *
  generalize trK k = t at *
  rcases h with rfl | rfl <;> rcases (show t = -3 ∨ t = -2 ∨ t = -1 ∨ t = 0 ∨ t = 1 ∨ t = 2 ∨ t = 3 by omega) with rfl | rfl | rfl | rfl | rfl | rfl | rfl <;> decide
theorem sortK_rng (k : Int) : -6 ≤ sortK k ∧ sortK k ≤ 6 := by
  unfold sortK
  split
  · rename_i h
    have ht := trK_rng k
    generalize detF (mdg k) = d at *
    generalize trK k = t at *
    rcases h with rfl | rfl <;> rcases (show t = -3 ∨ t = -2 ∨ t = -1 ∨ t = 0 ∨ t = 1 ∨ t = 2 ∨ t = 3 by omega) with rfl | rfl | rfl | rfl | rfl | rfl | rfl <;> decide
  · omega
/-- how the reference's number of the OPERATION that leaves all grows -/
def idN : Nat → Int
  | 0 => 0
  | k + 1 => 3 * idN k + (if k % 4 = 0 then 2 else 1)
theorem idN_9 : 13824 * idN 9 = u0 := by decide
theorem idN_b {k : Nat} (h : k ≤ 9) : 0 ≤ idN k ∧ idN k < 19683 := by
  rcases (show k = 0 ∨ k = 1 ∨ k = 2 ∨ k = 3 ∨ k = 4 ∨ k = 5 ∨ k = 6 ∨ k = 7 ∨ k = 8 ∨ k = 9 by omega) with rfl | rfl | rfl | rfl | rfl | rfl | rfl | rfl | rfl | rfl <;> decide
/-- keys that lie in an array from a place on -/
def emb (f : Nat → Int) (fr : Nat) (ks : List Int) : Prop := ∀ j, j < ks.length → f (fr + j) = ks.getD j (-1)
/-- a GROUP's keys -/
def gkM (ks : List Int) : Prop := isG ks ∧ ks.Pairwise (· < ·) ∧ ks.length ≤ 192
theorem gkM.pos {ks : List Int} (h : gkM ks) : 0 < ks.length := List.length_pos_of_mem h.1.2.1
theorem gkM.key {ks : List Int} (h : gkM ks) {j : Nat} (hj : j < ks.length) : 0 ≤ ks.getD j (-1) ∧ ks.getD j (-1) < 272097792 := (h.1.2.2.1 _ (getD_mem hj)).1
/-- the GROUPS' table -/
def MEM (fm fz : Nat → Int) (kss : List (List Int)) : Prop := kss.length ≤ 40 ∧ ∀ (g : Nat) (ks : List Int), kss[g]? = some ks → emb fm (192 * g) ks ∧ fz g = (ks.length : Int) ∧ gkM ks
