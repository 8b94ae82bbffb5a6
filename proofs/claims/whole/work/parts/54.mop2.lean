/-! The reference: counting, CLASS, LETTER, lists; pure. -/
def clsR (a b : Int) : Int :=
  if a = 0 then (if b = 0 then 1 else if b = 10000 then 2 else if b = 1000 then 4 else 0)
  else if a = 200 then (if b = 0 then 16 else if b = 10200 then 17 else if b = 3000 then 19 else if b = 1002 then 22 else 0)
  else if a = 1000 then (if b = 0 then 3 else if b = 11000 then 5 else if b = 2000 then 7 else if b = 20 then 10 else 0)
  else if a = 1020 then (if b = 0 then 9 else if b = 11020 then 11 else if b = 4000 then 13 else 0)
  else if a = 1202 then (if b = 0 then 21 else if b = 11202 then 23 else if b = 6000 then 25 else 0)
  else if a = 3000 then (if b = 0 then 6 else if b = 13000 then 8 else if b = 2020 then 14 else 0)
  else if a = 3200 then (if b = 0 then 18 else if b = 13200 then 20 else if b = 4002 then 26 else 0)
  else if a = 3800 then (if b = 0 then 28 else if b = 13800 then 29 else if b = 6060 then 31 else 0)
  else if a = 5020 then (if b = 0 then 12 else if b = 15020 then 15 else 0)
  else if a = 7202 then (if b = 0 then 24 else if b = 17202 then 27 else 0)
  else if a = 9860 then (if b = 0 then 30 else if b = 19860 then 32 else 0)
  else 0
/-- MATRICES of a SORT, along a row -/
def soC (ks : List Int) (t : Int) : Nat → Int
  | 0 => 0
  | i + 1 => soC ks t i + if ks.getD i (-1) / 13824 = bef ks i then 0 else if sortK (ks.getD i (-1)) = t then 1 else 0
theorem soC_rng (ks : List Int) (t : Int) : ∀ i : Nat, 0 ≤ soC ks t i ∧ soC ks t i ≤ (i : Int)
  | 0 => by simp [soC]
  | i + 1 => by
    have := soC_rng ks t i
    unfold soC
    split
    · omega
    · split <;> omega
def aT (ks : List Int) (n : Nat) : Int := 1000 * soC ks 2 n + 100 * soC ks 3 n + 10 * soC ks 4 n + soC ks 6 n
def bT (ks : List Int) (n : Nat) : Int := 10000 * soC ks (-1) n + 1000 * soC ks (-2) n + 100 * soC ks (-3) n + 10 * soC ks (-4) n + soC ks (-6) n
theorem ab_rng (ks : List Int) {n : Nat} (h : n ≤ 192) : (-2147483648 ≤ aT ks n ∧ aT ks n < 2147483648) ∧ -2147483648 ≤ bT ks n ∧ bT ks n < 2147483648 := by
  unfold aT bT
  have r := fun t => soC_rng ks t n
  have h1 := r 2
  have h2 := r 3
  have h3 := r 4
  have h4 := r 6
  have h5 := r (-1)
  have h6 := r (-2)
  have h7 := r (-3)
  have h8 := r (-4)
  have h9 := r (-6)
  constructor <;> omega
theorem dig_ab {s : Int} : digK s = 100000 * (if s = 2 then 1000 else if s = 3 then 100 else if s = 4 then 10 else if s = 6 then 1 else 0) + (if s = -1 then 10000 else if s = -2 then 1000 else if s = -3 then 100 else if s = -4 then 10 else if s = -6 then 1 else 0) := by
  unfold digK
  by_cases h1 : s = 2
  · subst h1; decide
  by_cases h2 : s = 3
  · subst h2; decide
  by_cases h3 : s = 4
  · subst h3; decide
  by_cases h4 : s = 6
  · subst h4; decide
  by_cases h5 : s = -1
  · subst h5; decide
  by_cases h6 : s = -2
  · subst h6; decide
  by_cases h7 : s = -3
  · subst h7; decide
  by_cases h8 : s = -4
  · subst h8; decide
  by_cases h9 : s = -6
  · subst h9; decide
  simp [h1, h2, h3, h4, h5, h6, h7, h8, h9]
/-- the class's row is the reference's two -/
theorem row_ab (ks : List Int) : ∀ n : Nat, rowT ks n = 100000 * aT ks n + bT ks n
  | 0 => by simp [rowT, aT, bT, soC]
  | n + 1 => by
    have ih := row_ab ks n
    have e : rowT ks (n + 1) = rowT ks n + if ks.getD n (-1) / 13824 = bef ks n then 0 else digK (sortK (ks.getD n (-1))) := rfl
    rw [e, ih]
    unfold aT bT
    simp only [soC]
    by_cases h : ks.getD n (-1) / 13824 = bef ks n
    · simp only [if_pos h]; omega
    · simp only [if_neg h]
      rw [dig_ab]
      generalize sortK (ks.getD n (-1)) = s
      by_cases h1 : s = 2
      · subst h1; simp; omega
      by_cases h2 : s = 3
      · subst h2; simp; omega
      by_cases h3 : s = 4
      · subst h3; simp; omega
      by_cases h4 : s = 6
      · subst h4; simp; omega
      by_cases h5 : s = -1
      · subst h5; simp; omega
      by_cases h6 : s = -2
      · subst h6; simp; omega
      by_cases h7 : s = -3
      · subst h7; simp; omega
      by_cases h8 : s = -4
      · subst h8; simp; omega
      by_cases h9 : s = -6
      · subst h9; simp; omega
      simp [h1, h2, h3, h4, h5, h6, h7, h8, h9]
/-- has it this SHIFT with the MATRIX that leaves all -/
def mI (ks : List Int) (s : Int) : Int := if u0 + s ∈ ks then 1 else 0
theorem mI_01 (ks : List Int) (s : Int) : 0 ≤ mI ks s ∧ mI ks s ≤ 1 := by unfold mI; split <;> omega
def letR (ks : List Int) (c : Int) : Int :=
  if c = 1 then 0 else if c = 2 then (if mI ks 300 = 0 then (if mI ks 6924 = 0 then (if mI ks 7200 = 0 then (if mI ks 7212 = 0 then 8 else 4) else 3) else 2) else 1)
  else if c = 4 then (if mI ks 300 = 0 then 8 else if mI ks 6924 = 0 then 8 else if mI ks 7200 = 0 then 8 else 5)
  else if c = 3 then (if mI ks 5008 = 0 then (if mI ks 5000 = 0 then 8 else if mI ks 9424 = 0 then 8 else 7) else if mI ks 9416 = 0 then (if mI ks 5000 = 0 then 8 else if mI ks 9424 = 0 then 8 else 7) else 6) else 8
theorem place_end {ks : List Int} (hs : ks.Pairwise (· < ·)) {op : Int} {lo : Nat} (hlo : lo < ks.length) (h1 : ∀ j, j < lo → ks.getD j (-1) < op) (h2 : lo + 1 = ks.length ∨ op ≤ ks.getD lo (-1)) (hne : ks.getD lo (-1) ≠ op) : op ∉ ks := by
  intro hm
  obtain ⟨t, ht, e⟩ := mem_getD hm
  have g1 : ¬ t < lo := fun h => by have := h1 t h; omega
  have g2 : t ≠ lo := fun h => hne (by rw [← h]; exact e)
  rcases h2 with h | h
  · omega
  · have := getD_mono hs (i := lo) (j := t) (by omega) ht
    omega
theorem det_mul (a b : Nat → Int) : detF (fun t => a (t / 3 * 3) * b (t % 3) + a (t / 3 * 3 + 1) * b (t % 3 + 3) + a (t / 3 * 3 + 2) * b (t % 3 + 6)) = detF a * detF b := by
  unfold detF
  simp only [Nat.zero_div, Nat.zero_mul, Nat.zero_mod, Nat.zero_add, Nat.reduceDiv, Nat.reduceMod, Nat.reduceMul, Nat.reduceAdd]
  grind
theorem detF_congr {a b : Nat → Int} (h : ∀ j, j < 9 → a j = b j) : detF a = detF b := by
  unfold detF
  rw [h 0 (by omega), h 1 (by omega), h 2 (by omega), h 3 (by omega), h 4 (by omega), h 5 (by omega), h 6 (by omega), h 7 (by omega), h 8 (by omega)]
theorem det_times {p q : Int} (h : timesK p q ≠ -1) : detF (mdg (timesK p q)) = detF (mdg p) * detF (mdg q) := by
  rw [← det_mul]
  exact detF_congr (times_digits h).2.1
theorem isG.det {ks : List Int} (h : isG ks) {x : Int} (hx : x ∈ ks) : detF (mdg x) = 1 ∨ detF (mdg x) = -1 := by
  obtain ⟨b, hb, e1, -⟩ := h.inv hx
  have h1 := det_times (h.tne hx hb)
  rw [e1, show detF (mdg u0) = 1 by decide] at h1
  generalize detF (mdg x) = d at *
  generalize detF (mdg b) = c at *
  have h2 : d ∣ 1 := ⟨c, h1⟩
  have h3 : d.natAbs ∣ 1 := Int.natAbs_dvd_natAbs.mpr h2
  have h4 : d.natAbs = 1 := Nat.dvd_one.mp h3
  omega
theorem mdg_nine {n p : Int} (hp : isPl p) (j : Nat) : mdg (13824 * n) j = mdg (n * 13824 + p) j := by
  unfold mdg
  unfold isPl at hp
  rw [show 13824 * n / 13824 = n by omega, show (n * 13824 + p) / 13824 = n by omega]
theorem matT_1 {ks : List Int} (h : 0 ≤ ks.getD 0 (-1)) : matT ks 1 = 1 := by
  have e : matT ks 1 = matT ks 0 + if ks.getD 0 (-1) / 13824 = bef ks 0 then 0 else 1 := rfl
  rw [e, if_neg (by have : bef ks 0 = -1 := rfl; omega)]
  rfl
theorem getD_snoc_l {L : List Int} {x : Int} {j : Nat} (h : j < L.length) : (L ++ [x]).getD j (-1) = L.getD j (-1) := by
  rw [List.getD_eq_getElem?_getD, List.getD_eq_getElem?_getD, List.getElem?_append_left h]
theorem getD_snoc_r (L : List Int) (x : Int) : (L ++ [x]).getD L.length (-1) = x := by
  rw [List.getD_eq_getElem?_getD, List.getElem?_append_right (Nat.le_refl _), Nat.sub_self]
  rfl
theorem len_snoc (L : List Int) (x : Int) : (L ++ [x]).length = L.length + 1 := by rw [List.length_append]; rfl
theorem emb_snoc {f : Nat → Int} {fr : Nat} {L : List Int} {x v : Int} (h : emb f fr L) (hv : v = x) : emb (zu f (fr + L.length) v) fr (L ++ [x]) := by
  intro j hj
  rw [len_snoc] at hj
  by_cases e : j = L.length
  · subst e
    rw [zu_s, getD_snoc_r, hv]
  · rw [zu_n _ _ (by omega), getD_snoc_l (by omega)]
    exact h j (by omega)
