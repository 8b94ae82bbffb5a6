/-! A Row: different numbers, the lowest first, at the front of an array. -/
def lat (ks : List Int) (k : Int) : Int := if 0 ≤ k then ks.getD k.toNat (-1) else -1
def rowOK (n : Nat) (f : Nat → Int) (ks : List Int) : Prop := ks.length ≤ n ∧ n ≤ 1000 ∧ (∀ j, j < ks.length → f j = ks.getD j (-1)) ∧ ks.Pairwise (· < ·) ∧ ∀ x ∈ ks, 0 ≤ x ∧ x < 2147483648
theorem getD_mem {ks : List Int} {j : Nat} (h : j < ks.length) : ks.getD j (-1) ∈ ks := by
  rw [List.getD_eq_getElem?_getD, List.getElem?_eq_getElem h]
  exact List.getElem_mem h
theorem getD_out {ks : List Int} {j : Nat} (h : ks.length ≤ j) : ks.getD j (-1) = -1 := by
  rw [List.getD_eq_getElem?_getD, List.getElem?_eq_none h]
  rfl
theorem mem_getD {ks : List Int} {x : Int} (h : x ∈ ks) : ∃ j, j < ks.length ∧ ks.getD j (-1) = x := by
  obtain ⟨j, hj, e⟩ := List.getElem_of_mem h
  exact ⟨j, hj, by rw [List.getD_eq_getElem?_getD, List.getElem?_eq_getElem hj]; exact e⟩
theorem getD_mono {ks : List Int} (hs : ks.Pairwise (· < ·)) {i j : Nat} (hij : i < j) (hj : j < ks.length) : ks.getD i (-1) < ks.getD j (-1) := by
  have hi : i < ks.length := Nat.lt_trans hij hj
  rw [List.getD_eq_getElem?_getD, List.getD_eq_getElem?_getD, List.getElem?_eq_getElem hi, List.getElem?_eq_getElem hj]
  exact List.pairwise_iff_getElem.mp hs i j hi hj hij
theorem getD_le {ks : List Int} (hs : ks.Pairwise (· < ·)) {i j : Nat} (hij : i ≤ j) (hj : j < ks.length) : ks.getD i (-1) ≤ ks.getD j (-1) := by
  rcases Nat.lt_or_eq_of_le hij with h | rfl
  · exact Int.le_of_lt (getD_mono hs h hj)
  · exact Int.le_refl _
theorem getD_inj {ks : List Int} (hs : ks.Pairwise (· < ·)) {i j : Nat} (hi : i < ks.length) (hj : j < ks.length) (e : ks.getD i (-1) = ks.getD j (-1)) : i = j := by
  rcases Nat.lt_trichotomy i j with h | h | h
  · have := getD_mono hs h hj; omega
  · exact h
  · have := getD_mono hs h hi; omega
theorem lat_in {ks : List Int} {k : Int} (h0 : 0 ≤ k) (h : k < ks.length) : lat ks k = ks.getD k.toNat (-1) ∧ lat ks k ∈ ks := by
  unfold lat
  rw [if_pos h0]
  exact ⟨rfl, getD_mem (by omega)⟩
theorem lat_out {ks : List Int} {k : Int} (h : k < 0 ∨ (ks.length : Int) ≤ k) : lat ks k = -1 := by
  unfold lat
  by_cases h0 : 0 ≤ k
  · rw [if_pos h0, getD_out (by omega)]
  · rw [if_neg h0]
theorem rowOK.rng {n : Nat} {f : Nat → Int} {ks : List Int} (h : rowOK n f ks) {j : Nat} (hj : j < ks.length) : 0 ≤ ks.getD j (-1) ∧ ks.getD j (-1) < 2147483648 := h.2.2.2.2 _ (getD_mem hj)
theorem rowOK.latr {n : Nat} {f : Nat → Int} {ks : List Int} (h : rowOK n f ks) (k : Int) : -1 ≤ lat ks k ∧ lat ks k < 2147483648 := by
  by_cases hk : 0 ≤ k ∧ k < ks.length
  · have h1 := lat_in hk.1 hk.2
    have := h.2.2.2.2 _ h1.2
    omega
  · rw [lat_out (by omega)]; omega
def fnbI (ks : List Int) (x lo hi : Int) : Prop := 0 ≤ lo ∧ lo ≤ hi ∧ hi ≤ ks.length ∧ (∀ j : Nat, (j : Int) < lo → ks.getD j (-1) < x) ∧ ∀ j : Nat, hi ≤ (j : Int) → j < ks.length → x ≤ ks.getD j (-1)
theorem fnbI.up {ks : List Int} {x lo hi mid : Int} (h : fnbI ks x lo hi) (hs : ks.Pairwise (· < ·)) (hm : lo ≤ mid ∧ mid < hi) (hx : ks.getD mid.toNat (-1) < x) : fnbI ks x (mid + 1) hi := by
  obtain ⟨h1, h2, h3, h4, h5⟩ := h
  refine ⟨by omega, by omega, h3, fun j hj => ?_, h5⟩
  have := getD_le hs (i := j) (j := mid.toNat) (by omega) (by omega)
  omega
theorem fnbI.dn {ks : List Int} {x lo hi mid : Int} (h : fnbI ks x lo hi) (hs : ks.Pairwise (· < ·)) (hm : lo ≤ mid ∧ mid < hi) (hx : x ≤ ks.getD mid.toNat (-1)) : fnbI ks x lo mid := by
  obtain ⟨h1, h2, h3, h4, h5⟩ := h
  refine ⟨h1, by omega, by omega, h4, fun j hj hl => ?_⟩
  have := getD_le hs (i := mid.toNat) (j := j) (by omega) hl
  omega
/-- where x stands, or would stand -/
def fnb (ks : List Int) (x z : Int) : Prop := fnbI ks x z z
theorem fnb.mem {ks : List Int} {x z : Int} (h : fnb ks x z) (hs : ks.Pairwise (· < ·)) (hx : 0 ≤ x) : (lat ks z = x ↔ x ∈ ks) := by
  obtain ⟨h1, h2, h3, h4, h5⟩ := h
  constructor
  · intro e
    by_cases hz : z < ks.length
    · rw [← e]; exact (lat_in h1 hz).2
    · rw [lat_out (by omega)] at e; omega
  · intro hm
    obtain ⟨j, hj, e⟩ := mem_getD hm
    have a1 : ¬ (j : Int) < z := fun q => by have := h4 j q; omega
    by_cases hjz : (j : Int) = z
    · rw [(lat_in h1 (by omega)).1, show z.toNat = j by omega, e]
    · have a2 := h5 z.toNat (by omega) (by omega)
      have a3 := getD_mono hs (i := z.toNat) (j := j) (by omega) hj
      omega
/-- the search's width, step by step -/
def hbs : Nat → Int
  | 0 => 1024
  | k + 1 => hbs k / 2
theorem hbs_32 : hbs 32 = 0 := by decide
/-- a row with one number more -/
def rowIns (ks ks' : List Int) (x : Int) : Prop := (∀ y, y ∈ ks' ↔ y ∈ ks ∨ y = x) ∧ ks'.length = ks.length + 1
theorem getD_app {a b : List Int} {j : Nat} : (a ++ b).getD j (-1) = if j < a.length then a.getD j (-1) else b.getD (j - a.length) (-1) := by
  simp only [List.getD_eq_getElem?_getD]
  by_cases h : j < a.length
  · rw [if_pos h, List.getElem?_append_left h]
  · rw [if_neg h, List.getElem?_append_right (by omega)]
theorem rowOK.ins {n : Nat} {f g : Nat → Int} {ks : List Int} {x z : Int} (h : rowOK n f ks) (hz : fnb ks x z) (hx : 0 ≤ x ∧ x < 2147483648) (hm : x ∉ ks) (hl : ks.length < n) (hg : ∀ j, j ≤ ks.length → g j = if (j : Int) < z then f j else if (j : Int) = z then x else f (j - 1)) : ∃ ks', rowOK n g ks' ∧ rowIns ks ks' x := by
  obtain ⟨h1, h2, h3, h4, h5⟩ := h
  obtain ⟨z1, z2, z3, z4, z5⟩ := hz
  have hlt : (ks.take z.toNat).length = z.toNat := by rw [List.length_take]; omega
  refine ⟨ks.take z.toNat ++ x :: ks.drop z.toNat, ⟨?_, h2, ?_, ?_, ?_⟩, ?_, ?_⟩
  · simp; omega
  · intro j hj
    have hj2 : j ≤ ks.length := by simp at hj; omega
    rw [hg j hj2, getD_app, hlt]
    by_cases a : (j : Int) < z
    · rw [if_pos a, if_pos (by omega), h3 j (by omega)]
      simp only [List.getD_eq_getElem?_getD]
      rw [List.getElem?_take, if_pos (by omega)]
    · rw [if_neg a, if_neg (show ¬ j < z.toNat by omega)]
      by_cases b : (j : Int) = z
      · rw [if_pos b, show j - z.toNat = 0 by omega]
        rfl
      · rw [if_neg b, h3 (j - 1) (by omega), show j - z.toNat = (j - 1 - z.toNat) + 1 by omega]
        simp only [List.getD_eq_getElem?_getD, List.getElem?_cons_succ]
        rw [List.getElem?_drop, show z.toNat + (j - 1 - z.toNat) = j - 1 by omega]
  · rw [List.pairwise_append]
    refine ⟨h4.sublist (List.take_sublist _ _), ?_, ?_⟩
    · rw [List.pairwise_cons]
      refine ⟨fun y hy => ?_, h4.sublist (List.drop_sublist _ _)⟩
      obtain ⟨i, hi, e⟩ := List.getElem_of_mem hy
      rw [List.getElem_drop] at e
      rw [List.length_drop] at hi
      have := z5 (z.toNat + i) (by omega) (by omega)
      rw [List.getD_eq_getElem?_getD, List.getElem?_eq_getElem (by omega)] at this
      have e2 : (some ks[z.toNat + i]).getD (-1) = y := e
      rw [e2] at this
      have : y ≠ x := fun q => hm (by rw [← q]; exact List.mem_of_mem_drop hy)
      omega
    · intro y hy w hw
      obtain ⟨i, hi, e⟩ := List.getElem_of_mem hy
      rw [hlt] at hi
      have hyx := z4 i (by omega)
      rw [List.getD_eq_getElem?_getD, List.getElem?_eq_getElem (by omega)] at hyx
      rw [List.getElem_take] at e
      have e2 : (some ks[i]).getD (-1) = y := e
      rw [e2] at hyx
      rcases List.mem_cons.mp hw with rfl | hw
      · exact hyx
      · obtain ⟨i2, hi2, e3⟩ := List.getElem_of_mem hw
        rw [List.getElem_drop] at e3
        rw [List.length_drop] at hi2
        have := z5 (z.toNat + i2) (by omega) (by omega)
        rw [List.getD_eq_getElem?_getD, List.getElem?_eq_getElem (by omega)] at this
        have e4 : (some ks[z.toNat + i2]).getD (-1) = w := e3
        rw [e4] at this
        omega
  · intro y hy
    rcases List.mem_append.mp hy with q | q
    · exact h5 y (List.mem_of_mem_take q)
    · rcases List.mem_cons.mp q with rfl | q
      · exact hx
      · exact h5 y (List.mem_of_mem_drop q)
  · intro y
    constructor
    · intro hy
      rcases List.mem_append.mp hy with q | q
      · exact Or.inl (List.mem_of_mem_take q)
      · rcases List.mem_cons.mp q with rfl | q
        · exact Or.inr rfl
        · exact Or.inl (List.mem_of_mem_drop q)
    · rintro (q | rfl)
      · rw [← List.take_append_drop z.toNat ks] at q
        rcases List.mem_append.mp q with q | q
        · exact List.mem_append_left _ q
        · exact List.mem_append_right _ (List.mem_cons_of_mem _ q)
      · exact List.mem_append_right _ List.mem_cons_self
  · simp; omega
def lix (ks : List Int) (x z : Int) : Prop := (x ∈ ks ∧ 0 ≤ z ∧ z < ks.length ∧ ks.getD z.toNat (-1) = x) ∨ (x ∉ ks ∧ z = -1)
theorem list_eq_getD : ∀ {a b : List Int}, a.length = b.length → (∀ j, j < a.length → a.getD j (-1) = b.getD j (-1)) → a = b := by
  intro a b hl h
  apply List.ext_getElem hl
  intro i h1 h2
  have := h i h1
  rw [List.getD_eq_getElem?_getD, List.getD_eq_getElem?_getD, List.getElem?_eq_getElem h1, List.getElem?_eq_getElem h2] at this
  exact this
