/-! The reference: HALVES kept as bits of longs; pure. -/
def bt (x : Int64) (j : Nat) : Bool := x.toBitVec.getLsbD (63 - j)
def b1 (s : Nat) : Int64 := Int64.ofBitVec (BitVec.twoPow 64 s)
theorem shl_b1 : ∀ s : Nat, s < 64 → (1 : Int64) <<< ((iI (s : Int)).toInt64 &&& 63) = b1 s := by decide +kernel
theorem bt_or (x : Int64) {k j : Nat} (hk : k < 64) (hj : j < 64) : bt (x ||| b1 (63 - k)) j = (bt x j || decide (j = k)) := by
  unfold bt b1
  rw [Int64.toBitVec_or, BitVec.getLsbD_or]
  congr 1
  show (BitVec.twoPow 64 (63 - k)).getLsbD (63 - j) = _
  rw [BitVec.getLsbD_twoPow]
  by_cases e : j = k
  · subst e
    simp
    omega
  · simp [e]
    omega
def bt3 (a b c : Int64) (j : Nat) : Bool := if j < 64 then bt a j else if j < 128 then bt b (j - 64) else bt c (j - 128)
def wrd (mk : Nat → Int) (k : Nat) (a b c : Int64) : Prop := ∀ j, j < 192 → (bt3 a b c j = true ↔ j < k ∧ mk j = 1)
theorem wrd.start (mk : Nat → Int) : wrd mk 0 0 0 0 := fun j hj => by
  have h0 : ∀ i, bt 0 i = false := fun i => by
    unfold bt
    show (0#64).getLsbD _ = false
    exact BitVec.getLsbD_zero
  unfold bt3
  constructor
  · intro h
    split at h
    · rw [h0] at h; cases h
    · split at h
      · rw [h0] at h; cases h
      · rw [h0] at h; cases h
  · intro h
    omega
theorem wrd.no {mk : Nat → Int} {k : Nat} {a b c : Int64} (h : wrd mk k a b c) (hm : ¬ mk k = 1) : wrd mk (k + 1) a b c := fun j hj => by
  rw [h j hj]
  constructor
  · exact fun ⟨q, r⟩ => ⟨by omega, r⟩
  · rintro ⟨q, r⟩
    rcases Nat.lt_or_ge j k with g | g
    · exact ⟨g, r⟩
    · obtain rfl : j = k := by omega
      exact absurd r hm
theorem wrd.yes {mk : Nat → Int} {k : Nat} {a b c a' b' c' : Int64} (h : wrd mk k a b c) (hm : mk k = 1) (hb : ∀ j, j < 192 → bt3 a' b' c' j = (bt3 a b c j || decide (j = k))) : wrd mk (k + 1) a' b' c' := fun j hj => by
  rw [hb j hj, Bool.or_eq_true, h j hj, decide_eq_true_iff]
  constructor
  · rintro (⟨q, r⟩ | rfl)
    · exact ⟨by omega, r⟩
    · exact ⟨by omega, hm⟩
  · rintro ⟨q, r⟩
    rcases Nat.lt_or_ge j k with g | g
    · exact Or.inl ⟨g, r⟩
    · exact Or.inr (by omega)
theorem bt3_a {a b c : Int64} {k : Nat} (hk : k < 64) : ∀ j, j < 192 → bt3 (a ||| b1 (63 - k)) b c j = (bt3 a b c j || decide (j = k)) := fun j hj => by
  unfold bt3
  by_cases g : j < 64
  · simp only [if_pos g]
    exact bt_or a hk g
  · simp only [if_neg g]
    rw [show decide (j = k) = false from decide_eq_false (by omega), Bool.or_false]
theorem bt3_b {a b c : Int64} {k : Nat} (hk : 64 ≤ k) (hk2 : k < 128) : ∀ j, j < 192 → bt3 a (b ||| b1 (127 - k)) c j = (bt3 a b c j || decide (j = k)) := fun j hj => by
  unfold bt3
  by_cases g : j < 64
  · simp only [if_pos g]
    rw [show decide (j = k) = false from decide_eq_false (by omega), Bool.or_false]
  · simp only [if_neg g]
    by_cases g2 : j < 128
    · simp only [if_pos g2]
      rw [show 127 - k = 63 - (k - 64) by omega, bt_or b (by omega) (by omega)]
      congr 1
      exact decide_eq_decide.mpr (by omega)
    · simp only [if_neg g2]
      rw [show decide (j = k) = false from decide_eq_false (by omega), Bool.or_false]
theorem bt3_c {a b c : Int64} {k : Nat} (hk : 128 ≤ k) (hk2 : k < 192) : ∀ j, j < 192 → bt3 a b (c ||| b1 (191 - k)) j = (bt3 a b c j || decide (j = k)) := fun j hj => by
  unfold bt3
  by_cases g : j < 64
  · simp only [if_pos g]
    rw [show decide (j = k) = false from decide_eq_false (by omega), Bool.or_false]
  · simp only [if_neg g]
    by_cases g2 : j < 128
    · simp only [if_pos g2]
      rw [show decide (j = k) = false from decide_eq_false (by omega), Bool.or_false]
    · simp only [if_neg g2]
      rw [show 191 - k = 63 - (k - 128) by omega, bt_or c (by omega) (by omega), show decide (j - 128 = k - 128) = decide (j = k) from decide_eq_decide.mpr (by omega)]
def uG (x y : Int64) : Prop := y.toBitVec.toNat < x.toBitVec.toNat
theorem i64_int (x : Int64) : x.toInt = if 2 * x.toBitVec.toNat < 18446744073709551616 then (x.toBitVec.toNat : Int) else (x.toBitVec.toNat : Int) - 18446744073709551616 := by
  show x.toBitVec.toInt = _
  rw [BitVec.toInt_eq_toNat_cond, show (2 : Nat) ^ 64 = 18446744073709551616 by simp]
  split
  · rfl
  · omega
theorem i64_lt (x y : Int64) : x < y ↔ x.toInt < y.toInt := Int64.lt_iff_toInt_lt
theorem i64_0 : (0 : Int64).toInt = 0 := rfl
theorem ug_facts (x y : Int64) : (x < 0 ↔ 9223372036854775808 ≤ x.toBitVec.toNat) ∧ (0 < x ↔ 0 < x.toBitVec.toNat ∧ x.toBitVec.toNat < 9223372036854775808) ∧ (x < y ↔ x.toInt < y.toInt) ∧ (y < x ↔ y.toInt < x.toInt) ∧ (x.toBitVec.toNat < 18446744073709551616) := by
  have hx := i64_int x
  have b := x.toBitVec.isLt
  have b : x.toBitVec.toNat < 18446744073709551616 := b
  refine ⟨?_, ?_, i64_lt x y, i64_lt y x, b⟩
  · rw [i64_lt, i64_0, hx]
    split <;> omega
  · rw [i64_lt, i64_0, hx]
    split <;> omega
theorem i64_ext {x y : Int64} (h : x.toBitVec.toNat = y.toBitVec.toNat) : x = y := Int64.toBitVec_inj.mp (BitVec.eq_of_toNat_eq h)
def ah3 (a b c a' b' c' : Int64) : Prop := (a ≠ a' ∧ uG a a') ∨ (a = a' ∧ b ≠ b' ∧ uG b b') ∨ (a = a' ∧ b = b' ∧ uG c c')
def lexG (n : Nat) (S T : Nat → Prop) : Prop := ∃ e, e < n ∧ (∀ j, j < e → (S j ↔ T j)) ∧ S e ∧ ¬ T e
theorem top_bit : ∀ (n x y : Nat), x < 2 ^ n → y < 2 ^ n → y < x → ∃ e, e < n ∧ (∀ j, e < j → j < n → x.testBit j = y.testBit j) ∧ x.testBit e = true ∧ y.testBit e = false
  | 0, x, y, hx, hy, h => by simp at hx; omega
  | n + 1, x, y, hx, hy, h => by
    have hp : 0 < 2 ^ n := Nat.two_pow_pos n
    have e1 : 2 ^ (n + 1) = 2 * 2 ^ n := by rw [Nat.pow_succ]; omega
    have tb : ∀ z : Nat, z < 2 ^ (n + 1) → (z.testBit n = true ↔ 2 ^ n ≤ z) := fun z hz => by
      rw [Nat.testBit_eq_decide_div_mod_eq, decide_eq_true_iff]
      constructor
      · intro q
        rcases Nat.lt_or_ge z (2 ^ n) with g | g
        · rw [Nat.div_eq_of_lt g] at q; omega
        · exact g
      · intro q
        have : z / 2 ^ n = 1 := by
          refine (Nat.div_eq_iff hp).mpr ?_
          omega
        rw [this]
    have low : ∀ (z j : Nat), j < n → z.testBit j = (z % 2 ^ n).testBit j := fun z j hj => by
      rw [Nat.testBit_mod_two_pow]
      simp [hj]
    by_cases gx : 2 ^ n ≤ x
    · by_cases gy : 2 ^ n ≤ y
      · obtain ⟨e, h1, h2, h3, h4⟩ := top_bit n (x - 2 ^ n) (y - 2 ^ n) (by omega) (by omega) (by omega)
        have mx : x % 2 ^ n = x - 2 ^ n := by rw [Nat.mod_eq_sub_mod gx, Nat.mod_eq_of_lt (by omega)]
        have my : y % 2 ^ n = y - 2 ^ n := by rw [Nat.mod_eq_sub_mod gy, Nat.mod_eq_of_lt (by omega)]
        refine ⟨e, by omega, fun j hj hn => ?_, by rw [low x e h1, mx]; exact h3, by rw [low y e h1, my]; exact h4⟩
        rcases Nat.lt_or_ge j n with g | g
        · rw [low x j g, low y j g, mx, my]
          exact h2 j hj g
        · obtain rfl : j = n := by omega
          rw [(tb x hx).mpr gx, (tb y hy).mpr gy]
      · refine ⟨n, by omega, fun j hj hn => by omega, (tb x hx).mpr gx, ?_⟩
        rw [← Bool.not_eq_true]
        exact fun q => gy ((tb y hy).mp q)
    · obtain ⟨e, h1, h2, h3, h4⟩ := top_bit n x y (by omega) (by omega) h
      refine ⟨e, by omega, fun j hj hn => ?_, h3, h4⟩
      rcases Nat.lt_or_ge j n with g | g
      · exact h2 j hj g
      · obtain rfl : j = n := by omega
        have q1 : ¬ x.testBit j = true := fun q => gx ((tb x hx).mp q)
        have q2 : ¬ y.testBit j = true := fun q => by have := (tb y hy).mp q; omega
        rw [Bool.not_eq_true] at q1 q2
        rw [q1, q2]
theorem ug_bit {x y : Int64} (h : uG x y) : ∃ e, e < 64 ∧ (∀ j, j < e → bt x j = bt y j) ∧ bt x e = true ∧ bt y e = false := by
  obtain ⟨e, h1, h2, h3, h4⟩ := top_bit 64 x.toBitVec.toNat y.toBitVec.toNat x.toBitVec.isLt y.toBitVec.isLt h
  have eb : ∀ (z : Int64) (j : Nat), bt z j = z.toBitVec.toNat.testBit (63 - j) := fun z j => rfl
  refine ⟨63 - e, by omega, fun j hj => ?_, ?_, ?_⟩
  · rw [eb, eb]
    exact h2 (63 - j) (by omega) (by omega)
  · rw [eb, show 63 - (63 - e) = e by omega]
    exact h3
  · rw [eb, show 63 - (63 - e) = e by omega]
    exact h4
theorem ah_lex {a b c a' b' c' : Int64} (h : ah3 a b c a' b' c') : lexG 192 (fun j => bt3 a b c j = true) (fun j => bt3 a' b' c' j = true) := by
  have eq : ∀ {p q : Bool}, p = q → (p = true ↔ q = true) := fun e => by rw [e]
  rcases h with ⟨_, h⟩ | ⟨rfl, _, h⟩ | ⟨rfl, rfl, h⟩
  · obtain ⟨e, h1, h2, h3, h4⟩ := ug_bit h
    refine ⟨e, by omega, fun j hj => ?_, ?_, ?_⟩
    · show bt3 a b c j = true ↔ bt3 a' b' c' j = true
      unfold bt3
      rw [if_pos (by omega), if_pos (by omega)]
      exact eq (h2 j hj)
    · show bt3 a b c e = true
      unfold bt3
      rw [if_pos h1]
      exact h3
    · show ¬ bt3 a' b' c' e = true
      unfold bt3
      rw [if_pos h1, h4]
      simp
  · obtain ⟨e, h1, h2, h3, h4⟩ := ug_bit h
    refine ⟨64 + e, by omega, fun j hj => ?_, ?_, ?_⟩
    · show bt3 a b c j = true ↔ bt3 a b' c' j = true
      unfold bt3
      by_cases g : j < 64
      · rw [if_pos g, if_pos g]
      · rw [if_neg g, if_neg g, if_pos (by omega), if_pos (by omega)]
        exact eq (h2 _ (by omega))
    · show bt3 a b c (64 + e) = true
      unfold bt3
      rw [if_neg (by omega), if_pos (by omega), show 64 + e - 64 = e by omega]
      exact h3
    · show ¬ bt3 a b' c' (64 + e) = true
      unfold bt3
      rw [if_neg (by omega), if_pos (by omega), show 64 + e - 64 = e by omega, h4]
      simp
  · obtain ⟨e, h1, h2, h3, h4⟩ := ug_bit h
    refine ⟨128 + e, by omega, fun j hj => ?_, ?_, ?_⟩
    · show bt3 a b c j = true ↔ bt3 a b c' j = true
      unfold bt3
      by_cases g : j < 64
      · rw [if_pos g, if_pos g]
      · rw [if_neg g, if_neg g]
        by_cases g2 : j < 128
        · rw [if_pos g2, if_pos g2]
        · rw [if_neg g2, if_neg g2]
          exact eq (h2 _ (by omega))
    · show bt3 a b c (128 + e) = true
      unfold bt3
      rw [if_neg (by omega), if_neg (by omega), show 128 + e - 128 = e by omega]
      exact h3
    · show ¬ bt3 a b c' (128 + e) = true
      unfold bt3
      rw [if_neg (by omega), if_neg (by omega), show 128 + e - 128 = e by omega, h4]
      simp
theorem ah_tri {a b c a' b' c' : Int64} (h : ¬ ah3 a b c a' b' c') : ah3 a' b' c' a b c ∨ (a = a' ∧ b = b' ∧ c = c') := by
  have tri : ∀ x y : Int64, uG x y ∨ x = y ∨ uG y x := fun x y => by
    unfold uG
    rcases Nat.lt_trichotomy x.toBitVec.toNat y.toBitVec.toNat with g | g | g
    · exact Or.inr (Or.inr g)
    · exact Or.inr (Or.inl (i64_ext g))
    · exact Or.inl g
  have ne : ∀ {x y : Int64}, uG x y → x ≠ y := fun g e => by subst e; exact Nat.lt_irrefl _ g
  rcases tri a a' with g | rfl | g
  · exact absurd (Or.inl ⟨ne g, g⟩) h
  · rcases tri b b' with g | rfl | g
    · exact absurd (Or.inr (Or.inl ⟨rfl, ne g, g⟩)) h
    · rcases tri c c' with g | rfl | g
      · exact absurd (Or.inr (Or.inr ⟨rfl, rfl, g⟩)) h
      · exact Or.inr ⟨rfl, rfl, rfl⟩
      · exact Or.inl (Or.inr (Or.inr ⟨rfl, rfl, g⟩))
    · exact Or.inl (Or.inr (Or.inl ⟨rfl, ne g, g⟩))
  · exact Or.inl (Or.inl ⟨ne g, g⟩)
/-- moved on, from a place on -/
def shJ (fj f1 : Nat → Int64) (base h i : Nat) : Prop := (∀ t, t < base + 3 * i → f1 t = fj t) ∧ (∀ k z, i ≤ k → k < h → z < 3 → f1 (base + 3 * (k + 1) + z) = fj (base + 3 * k + z)) ∧ ∀ t, base + 384 ≤ t → f1 t = fj t
theorem shJ.start (fj : Nat → Int64) (base h : Nat) : shJ fj fj base h h := ⟨fun _ _ => rfl, fun k z a b => by omega, fun _ _ => rfl⟩
theorem shJ.next {fj f1 f2 : Nat → Int64} {base h i : Nat} (hh : shJ fj f1 base h i) (hi : 0 < i) (hl : i ≤ h) (hb : h < 128) (h1 : ∀ z, z < 3 → f2 (base + 3 * i + z) = f1 (base + 3 * (i - 1) + z)) (h2 : ∀ t, (t < base + 3 * i ∨ base + 3 * i + 3 ≤ t) → f2 t = f1 t) : shJ fj f2 base h (i - 1) := by
  refine ⟨fun t ht => ?_, fun k z hk hk2 hz => ?_, fun t ht => ?_⟩
  · rw [h2 t (by omega)]
    exact hh.1 t (by omega)
  · by_cases e : k = i - 1
    · subst e
      rw [show base + 3 * (i - 1 + 1) + z = base + 3 * i + z by omega, h1 z hz]
      exact hh.1 _ (by omega)
    · rw [h2 _ (by omega)]
      exact hh.2.1 k z (by omega) hk2 hz
  · rw [h2 t (by omega)]
    exact hh.2.2 t ht
/-- put in at p -/
def insJ (fj f1 : Nat → Int64) (base h p : Nat) (a b c : Int64) : Prop :=
  p ≤ h ∧ (∀ t, t < base + 3 * p → f1 t = fj t) ∧ (f1 (base + 3 * p) = a ∧ f1 (base + 3 * p + 1) = b ∧ f1 (base + 3 * p + 2) = c) ∧ (∀ k z, p ≤ k → k < h → z < 3 → f1 (base + 3 * (k + 1) + z) = fj (base + 3 * k + z)) ∧ (∀ t, base + 384 ≤ t → f1 t = fj t) ∧ (∀ k, p ≤ k → k < h → ah3 a b c (fj (base + 3 * k)) (fj (base + 3 * k + 1)) (fj (base + 3 * k + 2))) ∧ (p = 0 ∨ ¬ ah3 a b c (fj (base + 3 * (p - 1))) (fj (base + 3 * (p - 1) + 1)) (fj (base + 3 * (p - 1) + 2)))
theorem insJ.of {fj f1 : Nat → Int64} {base h i : Nat} {a b c : Int64} (hh : shJ fj f1 base h i) (hi : i ≤ h) (hb : h < 128) (h1 : ∀ k, i ≤ k → k < h → ah3 a b c (fj (base + 3 * k)) (fj (base + 3 * k + 1)) (fj (base + 3 * k + 2))) (h2 : i = 0 ∨ ¬ ah3 a b c (fj (base + 3 * (i - 1))) (fj (base + 3 * (i - 1) + 1)) (fj (base + 3 * (i - 1) + 2))) : insJ fj (vp_updL (vp_updL (vp_updL f1 (base + 3 * i) a) (base + 3 * i + 1) b) (base + 3 * i + 2) c) base h i a b c := by
  have un : ∀ {f : Nat → Int64} {k j : Nat} {x : Int64}, j ≠ k → vp_updL f k x j = f j := fun h => if_neg h
  have us : ∀ {f : Nat → Int64} {k : Nat} {x : Int64}, vp_updL f k x k = x := if_pos rfl
  refine ⟨hi, fun t ht => ?_, ⟨?_, ?_, us⟩, fun k z hk hk2 hz => ?_, fun t ht => ?_, h1, h2⟩
  · rw [un (by omega), un (by omega), un (by omega)]
    exact hh.1 t ht
  · rw [un (by omega), un (by omega), us]
  · rw [un (by omega), us]
  · rw [un (by omega), un (by omega), un (by omega)]
    exact hh.2.1 k z hk hk2 hz
  · rw [un (by omega), un (by omega), un (by omega)]
    exact hh.2.2 t ht
theorem upJ_s {f : Nat → Int64} {p : Nat} {x : Int64} : vp_updL f p x p = x := if_pos rfl
theorem upJ_n {f : Nat → Int64} {p j : Nat} {x : Int64} (h : j ≠ p) : vp_updL f p x j = f j := if_neg h
