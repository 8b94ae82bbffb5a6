/-! Keys: an OPERATION as one number; what it does to PLACES. -/
def p3 (j : Nat) : Int := ([6561, 2187, 729, 243, 81, 27, 9, 3, 1] : List Int).getD j 1
def mdg (k : Int) (j : Nat) : Int := k / 13824 / p3 j % 3 - 1
theorem mdg_in (k : Int) (j : Nat) : -1 ≤ mdg k j ∧ mdg k j ≤ 1 := by unfold mdg; omega
def detF (g : Nat → Int) : Int := g 0 * (g 4 * g 8 - g 5 * g 7) - g 1 * (g 3 * g 8 - g 5 * g 6) + g 2 * (g 3 * g 7 - g 4 * g 6)
def pX (x : Int) : Int := x / 576
def pY (x : Int) : Int := x / 24 % 24
def pZ (x : Int) : Int := x % 24
def isPl (x : Int) : Prop := 0 ≤ x ∧ x < 13824
def mk3 (a b c : Int) : Int := (a * 24 + b) * 24 + c
def movF (g : Nat → Int) (sh x : Int) : Int :=
  mk3 ((g 0 * pX x + g 1 * pY x + g 2 * pZ x + pX sh + 72) % 24) ((g 3 * pX x + g 4 * pY x + g 5 * pZ x + pY sh + 72) % 24) ((g 6 * pX x + g 7 * pY x + g 8 * pZ x + pZ sh + 72) % 24)
def movK (k x : Int) : Int := movF (mdg k) (k % 13824) x
def kOK (k : Int) : Prop := 0 ≤ k ∧ k < 272097792
def vOK (k : Int) : Prop := kOK k ∧ ∀ x y, isPl x → isPl y → movK k x = movK k y → x = y
theorem pX_mk {a b c : Int} (ha : 0 ≤ a ∧ a < 24) (hb : 0 ≤ b ∧ b < 24) (hc : 0 ≤ c ∧ c < 24) : pX (mk3 a b c) = a ∧ pY (mk3 a b c) = b ∧ pZ (mk3 a b c) = c ∧ isPl (mk3 a b c) := by
  unfold pX pY pZ mk3 isPl; omega
theorem mk3_p {x : Int} (h : isPl x) : mk3 (pX x) (pY x) (pZ x) = x ∧ (0 ≤ pX x ∧ pX x < 24) ∧ (0 ≤ pY x ∧ pY x < 24) ∧ (0 ≤ pZ x ∧ pZ x < 24) := by
  unfold pX pY pZ mk3 isPl at *; omega
theorem movF_at (g : Nat → Int) (sh x : Int) : pX (movF g sh x) = (g 0 * pX x + g 1 * pY x + g 2 * pZ x + pX sh + 72) % 24 ∧ pY (movF g sh x) = (g 3 * pX x + g 4 * pY x + g 5 * pZ x + pY sh + 72) % 24 ∧ pZ (movF g sh x) = (g 6 * pX x + g 7 * pY x + g 8 * pZ x + pZ sh + 72) % 24 ∧ isPl (movF g sh x) :=
  pX_mk (by omega) (by omega) (by omega)
theorem movK_pl (k x : Int) : isPl (movK k x) := (movF_at _ _ _).2.2.2
def prodD (p q : Int) (t : Nat) : Int := mdg p (t / 3 * 3) * mdg q (t % 3) + mdg p (t / 3 * 3 + 1) * mdg q (t % 3 + 3) + mdg p (t / 3 * 3 + 2) * mdg q (t % 3 + 6)
def nineP (p q : Int) : Nat → Int
  | 0 => 0
  | t + 1 => nineP p q t * 3 + prodD p q t + 1
def prodIn (p q : Int) (n : Nat) : Prop := ∀ t, t < n → -1 ≤ prodD p q t ∧ prodD p q t ≤ 1
def timesK (p q : Int) : Int := if (∀ t, t < 9 → -1 ≤ prodD p q t ∧ prodD p q t ≤ 1) then nineP p q 9 * 13824 + movF (mdg p) (p % 13824) (q % 13824) else -1
theorem nine_digits {d0 d1 d2 d3 d4 d5 d6 d7 d8 sh : Int} (h0 : 0 ≤ d0 ∧ d0 < 3) (h1 : 0 ≤ d1 ∧ d1 < 3) (h2 : 0 ≤ d2 ∧ d2 < 3) (h3 : 0 ≤ d3 ∧ d3 < 3) (h4 : 0 ≤ d4 ∧ d4 < 3) (h5 : 0 ≤ d5 ∧ d5 < 3) (h6 : 0 ≤ d6 ∧ d6 < 3) (h7 : 0 ≤ d7 ∧ d7 < 3) (h8 : 0 ≤ d8 ∧ d8 < 3) (hs : 0 ≤ sh ∧ sh < 13824) :
    ∀ n, n = ((((((((d0 * 3 + d1) * 3 + d2) * 3 + d3) * 3 + d4) * 3 + d5) * 3 + d6) * 3 + d7) * 3 + d8) → (n * 13824 + sh) / 13824 = n ∧ (n * 13824 + sh) % 13824 = sh ∧ 0 ≤ n ∧ n < 19683 ∧ n / 6561 % 3 = d0 ∧ n / 2187 % 3 = d1 ∧ n / 729 % 3 = d2 ∧ n / 243 % 3 = d3 ∧ n / 81 % 3 = d4 ∧ n / 27 % 3 = d5 ∧ n / 9 % 3 = d6 ∧ n / 3 % 3 = d7 ∧ n / 1 % 3 = d8 := by
  intro n hn
  refine ⟨by omega, by omega, by omega, by omega, by omega, by omega, by omega, by omega, by omega, by omega, by omega, by omega, by omega⟩
/-- what a product's digits and SHIFT are -/
theorem times_in {p q : Int} (hin : ∀ t, t < 9 → -1 ≤ prodD p q t ∧ prodD p q t ≤ 1) : kOK (timesK p q) ∧ (∀ j, j < 9 → mdg (timesK p q) j = prodD p q j) ∧ timesK p q % 13824 = movF (mdg p) (p % 13824) (q % 13824) := by
  unfold timesK
  rw [if_pos hin]
  have hs := (movF_at (mdg p) (p % 13824) (q % 13824)).2.2.2
  generalize movF (mdg p) (p % 13824) (q % 13824) = sh at hs ⊢
  have e : nineP p q 9 = ((((((((0 * 3 + prodD p q 0 + 1) * 3 + prodD p q 1 + 1) * 3 + prodD p q 2 + 1) * 3 + prodD p q 3 + 1) * 3 + prodD p q 4 + 1) * 3 + prodD p q 5 + 1) * 3 + prodD p q 6 + 1) * 3 + prodD p q 7 + 1) * 3 + prodD p q 8 + 1 := rfl
  have b0 := hin 0 (by omega)
  have b1 := hin 1 (by omega)
  have b2 := hin 2 (by omega)
  have b3 := hin 3 (by omega)
  have b4 := hin 4 (by omega)
  have b5 := hin 5 (by omega)
  have b6 := hin 6 (by omega)
  have b7 := hin 7 (by omega)
  have b8 := hin 8 (by omega)
  unfold isPl at hs
  obtain ⟨g1, g2, g3, g4, k0, k1, k2, k3, k4, k5, k6, k7, k8⟩ := nine_digits (d0 := prodD p q 0 + 1) (d1 := prodD p q 1 + 1) (d2 := prodD p q 2 + 1) (d3 := prodD p q 3 + 1) (d4 := prodD p q 4 + 1) (d5 := prodD p q 5 + 1) (d6 := prodD p q 6 + 1) (d7 := prodD p q 7 + 1) (d8 := prodD p q 8 + 1) (sh := sh) (by omega) (by omega) (by omega) (by omega) (by omega) (by omega) (by omega) (by omega) (by omega) hs (nineP p q 9) (by rw [e]; omega)
  refine ⟨by unfold kOK; omega, ?_, g2⟩
  intro j hj
  unfold mdg
  rw [g1]
  rcases (show j = 0 ∨ j = 1 ∨ j = 2 ∨ j = 3 ∨ j = 4 ∨ j = 5 ∨ j = 6 ∨ j = 7 ∨ j = 8 by omega) with rfl | rfl | rfl | rfl | rfl | rfl | rfl | rfl | rfl <;> simp only [p3, List.getD_cons_zero, List.getD_cons_succ] <;> omega
theorem times_ne {p q : Int} : timesK p q ≠ -1 ↔ ∀ t, t < 9 → -1 ≤ prodD p q t ∧ prodD p q t ≤ 1 := by
  constructor
  · intro h
    by_cases hin : ∀ t, t < 9 → -1 ≤ prodD p q t ∧ prodD p q t ≤ 1
    · exact hin
    · unfold timesK at h
      rw [if_neg hin] at h
      exact absurd rfl h
  · intro h
    have := (times_in h).1.1
    omega
theorem times_digits {p q : Int} (h : timesK p q ≠ -1) : kOK (timesK p q) ∧ (∀ j, j < 9 → mdg (timesK p q) j = prodD p q j) ∧ timesK p q % 13824 = movF (mdg p) (p % 13824) (q % 13824) := times_in (times_ne.mp h)
theorem emod24 {a b : Int} (c : Int) (h : a - b = 24 * c) : a % 24 = b % 24 := by omega
theorem mod_comp (a0 a1 a2 b0 b1 b2 b3 b4 b5 b6 b7 b8 X Y Z s1 s2 s3 t : Int) : ((a0 * b0 + a1 * b3 + a2 * b6) * X + (a0 * b1 + a1 * b4 + a2 * b7) * Y + (a0 * b2 + a1 * b5 + a2 * b8) * Z + (a0 * s1 + a1 * s2 + a2 * s3 + t + 72) % 24 + 72) % 24 = (a0 * ((b0 * X + b1 * Y + b2 * Z + s1 + 72) % 24) + a1 * ((b3 * X + b4 * Y + b5 * Z + s2 + 72) % 24) + a2 * ((b6 * X + b7 * Y + b8 * Z + s3 + 72) % 24) + t + 72) % 24 := by
  obtain ⟨k0, h0⟩ : ∃ k, (a0 * s1 + a1 * s2 + a2 * s3 + t + 72) % 24 = (a0 * s1 + a1 * s2 + a2 * s3 + t + 72) - 24 * k := ⟨_, Int.emod_def _ _⟩
  obtain ⟨k1, h1⟩ : ∃ k, (b0 * X + b1 * Y + b2 * Z + s1 + 72) % 24 = (b0 * X + b1 * Y + b2 * Z + s1 + 72) - 24 * k := ⟨_, Int.emod_def _ _⟩
  obtain ⟨k2, h2⟩ : ∃ k, (b3 * X + b4 * Y + b5 * Z + s2 + 72) % 24 = (b3 * X + b4 * Y + b5 * Z + s2 + 72) - 24 * k := ⟨_, Int.emod_def _ _⟩
  obtain ⟨k3, h3⟩ : ∃ k, (b6 * X + b7 * Y + b8 * Z + s3 + 72) % 24 = (b6 * X + b7 * Y + b8 * Z + s3 + 72) - 24 * k := ⟨_, Int.emod_def _ _⟩
  rw [h0, h1, h2, h3]
  exact emod24 (3 - k0 - 3 * (a0 + a1 + a2) + (a0 * k1 + a1 * k2 + a2 * k3)) (by grind)
/-- the product does both, one behind the other -/
theorem times_act {p q : Int} (x : Int) (h : timesK p q ≠ -1) : movK (timesK p q) x = movK p (movK q x) := by
  obtain ⟨-, hd, hs⟩ := times_digits h
  obtain ⟨s1, s2, s3, -⟩ := movF_at (mdg p) (p % 13824) (q % 13824)
  obtain ⟨y1, y2, y3, -⟩ := movF_at (mdg q) (q % 13824) x
  have e0 : mdg (timesK p q) 0 = mdg p 0 * mdg q 0 + mdg p 1 * mdg q 3 + mdg p 2 * mdg q 6 := hd 0 (by omega)
  have e1 : mdg (timesK p q) 1 = mdg p 0 * mdg q 1 + mdg p 1 * mdg q 4 + mdg p 2 * mdg q 7 := hd 1 (by omega)
  have e2 : mdg (timesK p q) 2 = mdg p 0 * mdg q 2 + mdg p 1 * mdg q 5 + mdg p 2 * mdg q 8 := hd 2 (by omega)
  have e3 : mdg (timesK p q) 3 = mdg p 3 * mdg q 0 + mdg p 4 * mdg q 3 + mdg p 5 * mdg q 6 := hd 3 (by omega)
  have e4 : mdg (timesK p q) 4 = mdg p 3 * mdg q 1 + mdg p 4 * mdg q 4 + mdg p 5 * mdg q 7 := hd 4 (by omega)
  have e5 : mdg (timesK p q) 5 = mdg p 3 * mdg q 2 + mdg p 4 * mdg q 5 + mdg p 5 * mdg q 8 := hd 5 (by omega)
  have e6 : mdg (timesK p q) 6 = mdg p 6 * mdg q 0 + mdg p 7 * mdg q 3 + mdg p 8 * mdg q 6 := hd 6 (by omega)
  have e7 : mdg (timesK p q) 7 = mdg p 6 * mdg q 1 + mdg p 7 * mdg q 4 + mdg p 8 * mdg q 7 := hd 7 (by omega)
  have e8 : mdg (timesK p q) 8 = mdg p 6 * mdg q 2 + mdg p 7 * mdg q 5 + mdg p 8 * mdg q 8 := hd 8 (by omega)
  have g1 : movK (timesK p q) x = movF (mdg (timesK p q)) (movF (mdg p) (p % 13824) (q % 13824)) x := by rw [← hs]; rfl
  have g2 : movK p (movK q x) = movF (mdg p) (p % 13824) (movF (mdg q) (q % 13824) x) := rfl
  rw [g1, g2]
  rw [movF.eq_def (mdg (timesK p q)), movF.eq_def (mdg p) _ (movF (mdg q) (q % 13824) x)]
  rw [s1, s2, s3, y1, y2, y3, e0, e1, e2, e3, e4, e5, e6, e7, e8]
  rw [mod_comp, mod_comp, mod_comp]
theorem key_ext {p q : Int} (hp : kOK p) (hq : kOK q) (hd : ∀ j, j < 9 → mdg p j = mdg q j) (hs : p % 13824 = q % 13824) : p = q := by
  have e0 : p / 13824 / 6561 % 3 - 1 = q / 13824 / 6561 % 3 - 1 := hd 0 (by omega)
  have e1 : p / 13824 / 2187 % 3 - 1 = q / 13824 / 2187 % 3 - 1 := hd 1 (by omega)
  have e2 : p / 13824 / 729 % 3 - 1 = q / 13824 / 729 % 3 - 1 := hd 2 (by omega)
  have e3 : p / 13824 / 243 % 3 - 1 = q / 13824 / 243 % 3 - 1 := hd 3 (by omega)
  have e4 : p / 13824 / 81 % 3 - 1 = q / 13824 / 81 % 3 - 1 := hd 4 (by omega)
  have e5 : p / 13824 / 27 % 3 - 1 = q / 13824 / 27 % 3 - 1 := hd 5 (by omega)
  have e6 : p / 13824 / 9 % 3 - 1 = q / 13824 / 9 % 3 - 1 := hd 6 (by omega)
  have e7 : p / 13824 / 3 % 3 - 1 = q / 13824 / 3 % 3 - 1 := hd 7 (by omega)
  have e8 : p / 13824 / 1 % 3 - 1 = q / 13824 / 1 % 3 - 1 := hd 8 (by omega)
  obtain ⟨hp0, hp1⟩ := hp
  obtain ⟨hq0, hq1⟩ := hq
  have hn : 0 ≤ p / 13824 ∧ p / 13824 < 19683 := by omega
  have hm : 0 ≤ q / 13824 ∧ q / 13824 < 19683 := by omega
  have hpn : p = p / 13824 * 13824 + p % 13824 := by omega
  have hqm : q = q / 13824 * 13824 + q % 13824 := by omega
  rw [hpn, hqm, hs]
  clear hpn hqm hs hp0 hp1 hq0 hq1 hd
  generalize p / 13824 = n at *
  generalize q / 13824 = m at *
  have f0 : n / 6561 = m / 6561 := by omega
  have f1 : n / 2187 = m / 2187 := by clear e2 e3 e4 e5 e6 e7 e8; omega
  have f2 : n / 729 = m / 729 := by clear f0 e0 e1 e3 e4 e5 e6 e7 e8; omega
  have f3 : n / 243 = m / 243 := by clear f0 f1 e0 e1 e2 e4 e5 e6 e7 e8; omega
  have f4 : n / 81 = m / 81 := by clear f0 f1 f2 e0 e1 e2 e3 e5 e6 e7 e8; omega
  have f5 : n / 27 = m / 27 := by clear f0 f1 f2 f3 e0 e1 e2 e3 e4 e6 e7 e8; omega
  have f6 : n / 9 = m / 9 := by clear f0 f1 f2 f3 f4 e0 e1 e2 e3 e4 e5 e7 e8; omega
  have f7 : n / 3 = m / 3 := by clear f0 f1 f2 f3 f4 f5 e0 e1 e2 e3 e4 e5 e6 e8; omega
  have f8 : n = m := by clear f0 f1 f2 f3 f4 f5 f6 e0 e1 e2 e3 e4 e5 e6 e7; omega
  rw [f8]
/-- what it does tells the key -/
theorem key_act {p q : Int} (hp : kOK p) (hq : kOK q) (h : ∀ x, isPl x → movK p x = movK q x) : p = q := by
  have a0 := h 0 (by unfold isPl; omega)
  have a1 := h 576 (by unfold isPl; omega)
  have a2 := h 24 (by unfold isPl; omega)
  have a3 := h 1 (by unfold isPl; omega)
  have hs : p % 13824 = q % 13824 := by
    have p1 := mk3_p (x := p % 13824) (by unfold isPl; omega)
    have q1 := mk3_p (x := q % 13824) (by unfold isPl; omega)
    have c1 := congrArg pX a0
    have c2 := congrArg pY a0
    have c3 := congrArg pZ a0
    unfold movK at c1 c2 c3
    rw [(movF_at _ _ _).1, (movF_at _ _ _).1] at c1
    rw [(movF_at _ _ _).2.1, (movF_at _ _ _).2.1] at c2
    rw [(movF_at _ _ _).2.2.1, (movF_at _ _ _).2.2.1] at c3
    rw [show pX 0 = 0 from rfl, show pY 0 = 0 from rfl, show pZ 0 = 0 from rfl] at c1 c2 c3
    simp only [Int.mul_zero, Int.zero_add] at c1 c2 c3
    rw [← p1.1, ← q1.1]
    rw [show pX (p % 13824) = pX (q % 13824) by omega, show pY (p % 13824) = pY (q % 13824) by omega, show pZ (p % 13824) = pZ (q % 13824) by omega]
  have col : ∀ (x : Int) (i : Nat), (pX x = 1 ∧ pY x = 0 ∧ pZ x = 0 ∧ i = 0) ∨ (pX x = 0 ∧ pY x = 1 ∧ pZ x = 0 ∧ i = 1) ∨ (pX x = 0 ∧ pY x = 0 ∧ pZ x = 1 ∧ i = 2) → movK p x = movK q x → mdg p i = mdg q i ∧ mdg p (i + 3) = mdg q (i + 3) ∧ mdg p (i + 6) = mdg q (i + 6) := by
    intro x i hx ha
    have c1 := congrArg pX ha
    have c2 := congrArg pY ha
    have c3 := congrArg pZ ha
    unfold movK at c1 c2 c3
    rw [(movF_at _ _ _).1, (movF_at _ _ _).1, hs] at c1
    rw [(movF_at _ _ _).2.1, (movF_at _ _ _).2.1, hs] at c2
    rw [(movF_at _ _ _).2.2.1, (movF_at _ _ _).2.2.1, hs] at c3
    have b1 := mdg_in p i
    have b2 := mdg_in p (i + 3)
    have b3 := mdg_in p (i + 6)
    have b4 := mdg_in q i
    have b5 := mdg_in q (i + 3)
    have b6 := mdg_in q (i + 6)
    rcases hx with ⟨x1, x2, x3, rfl⟩ | ⟨x1, x2, x3, rfl⟩ | ⟨x1, x2, x3, rfl⟩ <;>
    · rw [x1, x2, x3] at c1 c2 c3
      simp only [Int.mul_zero, Int.mul_one, Int.zero_add, Int.add_zero] at c1 c2 c3
      simp only [Nat.zero_add, Nat.reduceAdd] at b1 b2 b3 b4 b5 b6 ⊢
      refine ⟨?_, ?_, ?_⟩ <;> omega
  obtain ⟨g0, g3, g6⟩ := col 576 0 (by decide) a1
  obtain ⟨g1, g4, g7⟩ := col 24 1 (by decide) a2
  obtain ⟨g2, g5, g8⟩ := col 1 2 (by decide) a3
  refine key_ext hp hq (fun j hj => ?_) hs
  rcases (show j = 0 ∨ j = 1 ∨ j = 2 ∨ j = 3 ∨ j = 4 ∨ j = 5 ∨ j = 6 ∨ j = 7 ∨ j = 8 by omega) with rfl | rfl | rfl | rfl | rfl | rfl | rfl | rfl | rfl <;> assumption
theorem emod24' {a b : Int} (h : a % 24 = b % 24) : ∃ c, a - b = 24 * c := ⟨a / 24 - b / 24, by omega⟩
theorem adj1 (a b c d e f g h i x y z : Int) : (a * (e * i - f * h) - b * (d * i - f * g) + c * (d * h - e * g)) * x = (e * i - f * h) * (a * x + b * y + c * z) + (c * h - b * i) * (d * x + e * y + f * z) + (b * f - c * e) * (g * x + h * y + i * z) := by grind
theorem adj2 (a b c d e f g h i x y z : Int) : (a * (e * i - f * h) - b * (d * i - f * g) + c * (d * h - e * g)) * y = (f * g - d * i) * (a * x + b * y + c * z) + (a * i - c * g) * (d * x + e * y + f * z) + (c * d - a * f) * (g * x + h * y + i * z) := by grind
theorem adj3 (a b c d e f g h i x y z : Int) : (a * (e * i - f * h) - b * (d * i - f * g) + c * (d * h - e * g)) * z = (d * h - e * g) * (a * x + b * y + c * z) + (b * g - a * h) * (d * x + e * y + f * z) + (a * e - b * d) * (g * x + h * y + i * z) := by grind
theorem mul24 (a b c k1 k2 k3 : Int) : a * (24 * k1) + b * (24 * k2) + c * (24 * k3) = 24 * (a * k1 + b * k2 + c * k3) := by grind
/-- determinant 1 or -1: no two PLACES are taken to one -/
theorem det_inj {g : Nat → Int} {sh x y : Int} (hd : detF g = 1 ∨ detF g = -1) (hx : isPl x) (hy : isPl y) (h : movF g sh x = movF g sh y) : x = y := by
  have c1 := congrArg pX h
  have c2 := congrArg pY h
  have c3 := congrArg pZ h
  rw [(movF_at _ _ _).1, (movF_at _ _ _).1] at c1
  rw [(movF_at _ _ _).2.1, (movF_at _ _ _).2.1] at c2
  rw [(movF_at _ _ _).2.2.1, (movF_at _ _ _).2.2.1] at c3
  obtain ⟨k1, h1⟩ := emod24' c1
  obtain ⟨k2, h2⟩ := emod24' c2
  obtain ⟨k3, h3⟩ := emod24' c3
  obtain ⟨ex, x1, x2, x3⟩ := mk3_p hx
  obtain ⟨ey, y1, y2, y3⟩ := mk3_p hy
  have r1 : g 0 * (pX x - pX y) + g 1 * (pY x - pY y) + g 2 * (pZ x - pZ y) = 24 * k1 := by rw [Int.mul_sub, Int.mul_sub, Int.mul_sub]; omega
  have r2 : g 3 * (pX x - pX y) + g 4 * (pY x - pY y) + g 5 * (pZ x - pZ y) = 24 * k2 := by rw [Int.mul_sub, Int.mul_sub, Int.mul_sub]; omega
  have r3 : g 6 * (pX x - pX y) + g 7 * (pY x - pY y) + g 8 * (pZ x - pZ y) = 24 * k3 := by rw [Int.mul_sub, Int.mul_sub, Int.mul_sub]; omega
  have i1 := adj1 (g 0) (g 1) (g 2) (g 3) (g 4) (g 5) (g 6) (g 7) (g 8) (pX x - pX y) (pY x - pY y) (pZ x - pZ y)
  have i2 := adj2 (g 0) (g 1) (g 2) (g 3) (g 4) (g 5) (g 6) (g 7) (g 8) (pX x - pX y) (pY x - pY y) (pZ x - pZ y)
  have i3 := adj3 (g 0) (g 1) (g 2) (g 3) (g 4) (g 5) (g 6) (g 7) (g 8) (pX x - pX y) (pY x - pY y) (pZ x - pZ y)
  rw [r1, r2, r3] at i1 i2 i3
  rw [mul24] at i1 i2 i3
  generalize (g 4 * g 8 - g 5 * g 7) * k1 + (g 2 * g 7 - g 1 * g 8) * k2 + (g 1 * g 5 - g 2 * g 4) * k3 = m1 at i1
  generalize (g 5 * g 6 - g 3 * g 8) * k1 + (g 0 * g 8 - g 2 * g 6) * k2 + (g 2 * g 3 - g 0 * g 5) * k3 = m2 at i2
  generalize (g 3 * g 7 - g 4 * g 6) * k1 + (g 1 * g 6 - g 0 * g 7) * k2 + (g 0 * g 4 - g 1 * g 3) * k3 = m3 at i3
  unfold detF at hd
  generalize g 0 * (g 4 * g 8 - g 5 * g 7) - g 1 * (g 3 * g 8 - g 5 * g 6) + g 2 * (g 3 * g 7 - g 4 * g 6) = dd at hd i1 i2 i3
  have j1 : pX x = pX y := by rcases hd with e | e <;> rw [e] at i1 <;> omega
  have j2 : pY x = pY y := by rcases hd with e | e <;> rw [e] at i2 <;> omega
  have j3 : pZ x = pZ y := by rcases hd with e | e <;> rw [e] at i3 <;> omega
  rw [← ex, ← ey, j1, j2, j3]
theorem vOK_det {k : Int} (hk : kOK k) (hd : detF (mdg k) = 1 ∨ detF (mdg k) = -1) : vOK k := ⟨hk, fun x y hx hy h => det_inj hd hx hy h⟩
theorem vOK_times {p q : Int} (hp : vOK p) (hq : vOK q) (h : timesK p q ≠ -1) : vOK (timesK p q) := by
  refine ⟨(times_digits h).1, fun x y hx hy e => ?_⟩
  rw [times_act x h, times_act y h] at e
  exact hq.2 x y hx hy (hp.2 _ _ (movK_pl _ _) (movK_pl _ _) e)
theorem times_lcancel {p q r : Int} (hp : vOK p) (hq : kOK q) (hr : kOK r) (h : timesK p q ≠ -1) (e : timesK p q = timesK p r) : q = r := by
  refine key_act hq hr fun x hx => ?_
  have h2 : timesK p r ≠ -1 := by rw [← e]; exact h
  have := times_act x h
  rw [e, times_act x h2] at this
  exact (hp.2 _ _ (movK_pl _ _) (movK_pl _ _) this).symm
theorem prodD_assoc {p q r : Int} (h1 : timesK p q ≠ -1) (h2 : timesK q r ≠ -1) : ∀ t, t < 9 → prodD (timesK p q) r t = prodD p (timesK q r) t := by
  obtain ⟨-, hd, -⟩ := times_digits h1
  obtain ⟨-, hd2, -⟩ := times_digits h2
  intro t ht
  have hr3 : t / 3 < 3 := by omega
  have hc3 : t % 3 < 3 := by omega
  unfold prodD
  rw [hd (t / 3 * 3) (by omega), hd (t / 3 * 3 + 1) (by omega), hd (t / 3 * 3 + 2) (by omega), hd2 (t % 3) (by omega), hd2 (t % 3 + 3) (by omega), hd2 (t % 3 + 6) (by omega)]
  unfold prodD
  generalize t / 3 = a at *
  generalize t % 3 = b at *
  rw [show a * 3 / 3 = a by omega, show (a * 3 + 1) / 3 = a by omega, show (a * 3 + 2) / 3 = a by omega, show a * 3 % 3 = 0 by omega, show (a * 3 + 1) % 3 = 1 by omega, show (a * 3 + 2) % 3 = 2 by omega, show b / 3 = 0 by omega, show (b + 3) / 3 = 1 by omega, show (b + 6) / 3 = 2 by omega, show b % 3 = b by omega, show (b + 3) % 3 = b by omega, show (b + 6) % 3 = b by omega]
  simp only [Nat.zero_mul, Nat.zero_add, Nat.one_mul, Nat.reduceMul, Nat.reduceAdd]
  grind
theorem nineP_congr {p q p' q' : Int} : ∀ n, (∀ t, t < n → prodD p q t = prodD p' q' t) → nineP p q n = nineP p' q' n
  | 0, _ => rfl
  | n + 1, h => by
    show nineP p q n * 3 + prodD p q n + 1 = nineP p' q' n * 3 + prodD p' q' n + 1
    rw [nineP_congr n (fun t ht => h t (by omega)), h n (by omega)]
theorem times_assoc {p q r : Int} (h1 : timesK p q ≠ -1) (h2 : timesK q r ≠ -1) : timesK (timesK p q) r = timesK p (timesK q r) := by
  have hd := prodD_assoc h1 h2
  have hs : movF (mdg (timesK p q)) (timesK p q % 13824) (r % 13824) = movF (mdg p) (p % 13824) (timesK q r % 13824) := by
    rw [(times_digits h2).2.2]
    exact times_act (r % 13824) h1
  have hc : (∀ t, t < 9 → -1 ≤ prodD (timesK p q) r t ∧ prodD (timesK p q) r t ≤ 1) ↔ (∀ t, t < 9 → -1 ≤ prodD p (timesK q r) t ∧ prodD p (timesK q r) t ≤ 1) := by
    constructor
    · intro h t ht
      rw [← hd t ht]; exact h t ht
    · intro h t ht
      rw [hd t ht]; exact h t ht
  rw [timesK.eq_def (timesK p q) r, timesK.eq_def p (timesK q r), hs, nineP_congr 9 hd]
  by_cases h : (∀ t, t < 9 → -1 ≤ prodD p (timesK q r) t ∧ prodD p (timesK q r) t ≤ 1)
  · rw [if_pos h, if_pos (hc.mpr h)]
  · rw [if_neg h, if_neg (fun g => h (hc.mp g))]
/-- the OPERATION that leaves all PLACES -/
def u0 : Int := 227874816
theorem u0_ok : kOK u0 := by unfold kOK u0; omega
theorem u0_mdg : mdg u0 0 = 1 ∧ mdg u0 1 = 0 ∧ mdg u0 2 = 0 ∧ mdg u0 3 = 0 ∧ mdg u0 4 = 1 ∧ mdg u0 5 = 0 ∧ mdg u0 6 = 0 ∧ mdg u0 7 = 0 ∧ mdg u0 8 = 1 ∧ u0 % 13824 = 0 := by decide
theorem u0_act {x : Int} (hx : isPl x) : movK u0 x = x := by
  obtain ⟨a0, a1, a2, a3, a4, a5, a6, a7, a8, a9⟩ := u0_mdg
  obtain ⟨e, h1, h2, h3⟩ := mk3_p hx
  unfold movK movF
  rw [a0, a1, a2, a3, a4, a5, a6, a7, a8, a9, show pX 0 = 0 from rfl, show pY 0 = 0 from rfl, show pZ 0 = 0 from rfl]
  rw [show (1 * pX x + 0 * pY x + 0 * pZ x + 0 + 72) % 24 = pX x by omega, show (0 * pX x + 1 * pY x + 0 * pZ x + 0 + 72) % 24 = pY x by omega, show (0 * pX x + 0 * pY x + 1 * pZ x + 0 + 72) % 24 = pZ x by omega]
  exact e
theorem u0_v : vOK u0 := ⟨u0_ok, fun x y hx hy h => by rw [u0_act hx, u0_act hy] at h; exact h⟩
theorem u0_prod (p : Int) : (∀ t, t < 9 → prodD u0 p t = mdg p t) ∧ (∀ t, t < 9 → prodD p u0 t = mdg p t) := by
  obtain ⟨a0, a1, a2, a3, a4, a5, a6, a7, a8, a9⟩ := u0_mdg
  constructor <;> intro t ht <;> rcases (show t = 0 ∨ t = 1 ∨ t = 2 ∨ t = 3 ∨ t = 4 ∨ t = 5 ∨ t = 6 ∨ t = 7 ∨ t = 8 by omega) with rfl | rfl | rfl | rfl | rfl | rfl | rfl | rfl | rfl <;> simp [prodD, a0, a1, a2, a3, a4, a5, a6, a7, a8]
theorem u0_l {p : Int} (hp : kOK p) : timesK u0 p = p := by
  have h : timesK u0 p ≠ -1 := times_ne.mpr fun t ht => by rw [(u0_prod p).1 t ht]; exact mdg_in p t
  exact key_act (times_digits h).1 hp fun x hx => by rw [times_act x h, u0_act (movK_pl p x)]
theorem u0_r {p : Int} (hp : kOK p) : timesK p u0 = p := by
  have h : timesK p u0 ≠ -1 := times_ne.mpr fun t ht => by rw [(u0_prod p).2 t ht]; exact mdg_in p t
  exact key_act (times_digits h).1 hp fun x hx => by rw [times_act x h, u0_act hx]
